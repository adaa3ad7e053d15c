section ZM15
/-- the first n places of the at-array in the slot t -/
def zcp (I : Nat → Nat → Int32) (t n : Nat) : Nat → Nat → Int32 := fun a j => if a = 97 ∧ 843 * t ≤ j ∧ j < 843 * t + n then I 96 (j - 843 * t) else I a j
theorem zcp_0 (I : Nat → Nat → Int32) (t : Nat) : zcp I t 0 = I := by
  funext a j
  exact if_neg (fun h => by omega)
theorem zcp_s (I : Nat → Nat → Int32) (t n : Nat) : z_u (zcp I t n) 97 (843 * t + n) (I 96 n) = zcp I t (n + 1) := by
  funext a j
  unfold z_u zcp
  by_cases h : a = 97 ∧ j = 843 * t + n
  · rw [if_pos h, if_pos ⟨h.1, by omega, by omega⟩, h.2, Nat.add_sub_cancel_left]
  · rw [if_neg h]
    by_cases h2 : a = 97 ∧ 843 * t ≤ j ∧ j < 843 * t + n
    · rw [if_pos h2, if_pos ⟨h2.1, h2.2.1, by omega⟩]
    · rw [if_neg h2, if_neg (fun q => h2 ⟨q.1, q.2.1, by
        have : j ≠ 843 * t + n := fun e => h ⟨q.1, e⟩
        omega⟩)]
theorem zcp_o (I : Nat → Nat → Int32) {t n a j : Nat} (h : a ≠ 97) : zcp I t n a j = I a j := if_neg (fun q => h q.1)
theorem zix843 (t k : Nat) : (843 : Int32) * nI t + nI k = nI (843 * t + k) := by
  rw [show (843 : Int32) = nI 843 from rfl, nI_mul, nI_add]
theorem z01 {x : Int32} (h0 : 0 ≤ x) (h1 : x ≤ 1) : ∃ t, t < 2 ∧ x = nI t := zi_nI (n := 2) (by decide) h0 (by
  rw [zi_le] at h1
  rw [zi_lt, nI_toInt (by decide)]
  have e : (1 : Int32).toInt = 1 := rfl
  omega)
set_option maxHeartbeats 4000000 in
set_option maxRecDepth 100000 in
theorem kX6_save (lx : Launch) (g : zG) (N : Nat) (I : Nat → Nat → Int32) (P : Nat → Nat → Option Nat) (J : Nat → Nat → Int64) (x : Int32) : z_Ct lx yX6_save (zT yX6_save cX6_save 3 (Option.none : Option FieldType)) ({ frames := 1, cells := 0, slots := 0, locals := 22 } : Room) g N I P J [.ref (g.1 95), .int x] (fun r I' P' J' => r = none ∧ P' = P ∧ J' = J ∧ ((¬ (0 ≤ x ∧ x ≤ 1) ∧ I' = z_u I 95 3 1) ∨ ∃ t, x = nI t ∧ t < 2 ∧ I' = z_u (zcp (z_u I 95 3 0) t 843) 98 t 1)) 0 0 := by
  refine z_of (by decide) (Nat.le_of_ble_eq_true rfl) (lv0 := [(0, .ref (g.1 95)), (1, .int x)]) rfl ?_
  intro C hlx hC hE hRm
  have hC : zX C cX6_save 3 RX6 (zT yX6_save cX6_save 3 (Option.none : Option FieldType)) g N := hC
  refine z_aload_n (pc := 0) hC 0 dX6_save_0 rfl rfl z_isr_r ?_
  refine z_iload_n (pc := 1) hC 1 dX6_save_1 rfl rfl ?_
  refine z_iconst (pc := 2) (v := 0) hC dX6_save_2 rfl ?_
  refine z_iconst (pc := 3) (v := 1) hC dX6_save_3 rfl ?_
  refine z_cS (pc := 4) (st := [.ref (g.1 95)]) hC [.int x, .int 0, .int 1] (kX6_in C.2.1 g N I P J x 0 1) zkX6_in zm_4_135 ⟨rfl, rfl⟩ rfl rfl hRm ⟨Nat.le_of_ble_eq_true rfl, Nat.le_of_ble_eq_true rfl⟩ (Nat.le_of_ble_eq_true rfl) ⟨Nat.zero_le _, Nat.zero_le _⟩ dX6_save_4 ?_
  refine z_if_eq (pc := 7) (tgt := 14) hC dX6_save_7 (by decide) (fun h7 => ?_) (fun h7 => ?_)
  · skip
    have g7 := zB_f h7
    refine z_iconst (pc := 14) (v := 1) hC dX6_save_14 rfl ?_
    refine z_pI (pc := 15) hC 6 3 rfl (z_lt hC (by decide)) rfl inX6 tyX6_ok nmX6 (by decide) rfl zm_4_76 rfl rfl rfl dX6_save_15 ?_
    refine z_aload_n (pc := 18) hC 0 dX6_save_18 rfl rfl z_isr_r ?_
    refine z_gI (pc := 19) hC 6 3 (x := 1) rfl (z_lt hC (by decide)) rfl inX6 (by decide) rfl zm_4_76 (z_u_s _ _ _ _) dX6_save_19 ?_
    refine z_if_ne (pc := 22) (tgt := 65) hC dX6_save_22 (by decide) (fun h22 => ?_) (fun h22 => ?_)
    · skip
      exact z_vret (pc := 65) hC hE dX6_save_65 ⟨rfl, rfl, rfl, Or.inl ⟨of_decide_eq_false g7, rfl⟩⟩
    · skip
      exact absurd h22 (by decide)
  · skip
    have g7 := zB_t h7
    obtain ⟨q0, q1⟩ := of_decide_eq_true g7
    obtain ⟨t, ht, rfl⟩ := z01 q0 q1
    refine z_iconst (pc := 10) (v := 0) hC dX6_save_10 rfl ?_
    refine z_goto (pc := 11) (tgt := 15) hC dX6_save_11 (by decide) ?_
    refine z_pI (pc := 15) hC 6 3 rfl (z_lt hC (by decide)) rfl inX6 tyX6_ok nmX6 (by decide) rfl zm_4_76 rfl rfl rfl dX6_save_15 ?_
    refine z_aload_n (pc := 18) hC 0 dX6_save_18 rfl rfl z_isr_r ?_
    refine z_gI (pc := 19) hC 6 3 (x := 0) rfl (z_lt hC (by decide)) rfl inX6 (by decide) rfl zm_4_76 (z_u_s _ _ _ _) dX6_save_19 ?_
    refine z_if_ne (pc := 22) (tgt := 65) hC dX6_save_22 (by decide) (fun h22 => ?_) (fun h22 => ?_)
    · skip
      exact absurd h22 (by decide)
    · skip
      refine z_iconst (pc := 25) (v := 0) hC dX6_save_25 rfl ?_
      refine z_istore_n (pc := 26) (lv' := [(2, .int 0), (0, .ref (g.1 95)), (1, .int (nI t))]) hC dX6_save_26 rfl (by decide) rfl ?_
      have L27 : ∀ (zf : Nat) (k : Nat) (hk : k ≤ 843), 843 - k < zf → zJ C g N 3 0 0 (zcp (z_u I 95 3 0) t k) P J 27 [(2, .int (nI k)), (0, .ref (g.1 95)), (1, .int (nI t))] [] := by
        intro zf
        induction zf with
        | zero =>
          intro k hk hn2
          exact absurd hn2 (Nat.not_lt_zero _)
        | succ zf ih =>
          intro k hk hn2
          refine z_iload_n (pc := 27) hC 0 dX6_save_27 rfl rfl ?_
          refine z_sipush (pc := 28) (v := 843) hC dX6_save_28 rfl ?_
          refine z_icmp_ge (pc := 31) (tgt := 58) hC dX6_save_31 (by decide) (fun h31 => ?_) (fun h31 => ?_)
          · skip
            have g31 := Int32.not_lt.mpr h31
            have ek : k = 843 := Nat.le_antisymm hk (zc_ge (n := 843) h31 (by omega) (by decide))
            subst ek
            refine z_aload_n (pc := 58) hC 1 dX6_save_58 rfl rfl z_isr_r ?_
            refine z_gF (pc := 59) hC 6 2 (t := 98) rfl (z_lt hC (by decide)) rfl inX6 (by decide) rfl zm_4_75 rfl dX6_save_59 ?_
            refine z_iload_n (pc := 62) hC 2 dX6_save_62 rfl rfl ?_
            refine z_iconst (pc := 63) (v := 1) hC dX6_save_63 rfl ?_
            refine z_zsN (pc := 64) hC t rfl (z_lt hC (by decide)) rfl ht (by decide) (Or.inr rfl) dX6_save_64 ?_
            exact z_vret (pc := 65) hC hE dX6_save_65 ⟨rfl, rfl, rfl, Or.inr ⟨t, rfl, ht, rfl⟩⟩
          · skip
            have g31 := Int32.not_le.mp h31
            have hk8 : k < 843 := zc_lt (n := 843) h31 (by omega) (by decide)
            refine z_aload_n (pc := 34) hC 1 dX6_save_34 rfl rfl z_isr_r ?_
            refine z_gF (pc := 35) hC 6 1 (t := 97) rfl (z_lt hC (by decide)) rfl inX6 (by decide) rfl zm_4_74 rfl dX6_save_35 ?_
            refine z_sipush (pc := 38) (v := 843) hC dX6_save_38 rfl ?_
            refine z_iload_n (pc := 41) hC 2 dX6_save_41 rfl rfl ?_
            refine z_imul (pc := 42) hC dX6_save_42 ?_
            refine z_iload_n (pc := 43) hC 0 dX6_save_43 rfl rfl ?_
            refine z_iadd (pc := 44) hC dX6_save_44 ?_
            refine z_aload_n (pc := 45) hC 1 dX6_save_45 rfl rfl z_isr_r ?_
            refine z_gF (pc := 46) hC 6 0 (t := 96) rfl (z_lt hC (by decide)) rfl inX6 (by decide) rfl zm_4_73 rfl dX6_save_46 ?_
            refine z_iload_n (pc := 49) hC 0 dX6_save_49 rfl rfl ?_
            refine z_iaN (pc := 50) hC k (x := (z_u I 95 3 0) 96 k) rfl (z_lt hC (by decide)) rfl (by omega) (by decide) (zcp_o _ (by decide)) dX6_save_50 ?_
            refine z_isN (pc := 51) hC (843 * t + k) rfl (z_lt hC (by decide)) (zix843 t k) (by omega) (by decide) dX6_save_51 ?_
            refine z_iinc (pc := 52) (v := nI (k + 1)) (lv' := [(2, .int (nI (k + 1))), (0, .ref (g.1 95)), (1, .int (nI t))]) hC 0 dX6_save_52 rfl (nI_1 k) (by decide) rfl ?_
            refine z_goto (pc := 55) (tgt := 27) hC dX6_save_55 (by decide) ?_
            rw [zcp_s]
            exact ih (k + 1) (by omega) (by omega)
      have K := L27 844 0 (by decide) (by decide)
      rw [zcp_0] at K
      exact K
set_option maxHeartbeats 4000000 in
set_option maxRecDepth 100000 in
theorem kX6_restore (lx : Launch) (g : zG) (N : Nat) (I : Nat → Nat → Int32) (P : Nat → Nat → Option Nat) (J : Nat → Nat → Int64) (x : Int32) : z_Ct lx yX6_restore (zT yX6_restore cX6_restore 3 (Option.none : Option FieldType)) ({ frames := 1, cells := 0, slots := 0, locals := 22 } : Room) g N I P J [.ref (g.1 95), .int x] (fun r I' P' J' => r = none ∧ P' = P ∧ J' = J ∧ ((¬ (0 ≤ x ∧ x ≤ 1) ∧ I' = z_u I 95 3 1) ∨ ((∃ t, x = nI t ∧ t < 2 ∧ I 98 t = 0 ∧ I' = z_u I 95 3 2) ∨ ∃ t, x = nI t ∧ t < 2 ∧ ¬ I 98 t = 0 ∧ I' = zrow (fun j => I 97 (843 * t + j)) (z_u I 95 3 0) 96 843))) 0 0 := by
  refine z_of (by decide) (Nat.le_of_ble_eq_true rfl) (lv0 := [(0, .ref (g.1 95)), (1, .int x)]) rfl ?_
  intro C hlx hC hE hRm
  have hC : zX C cX6_restore 3 RX6 (zT yX6_restore cX6_restore 3 (Option.none : Option FieldType)) g N := hC
  refine z_aload_n (pc := 0) hC 0 dX6_restore_0 rfl rfl z_isr_r ?_
  refine z_iload_n (pc := 1) hC 1 dX6_restore_1 rfl rfl ?_
  refine z_iconst (pc := 2) (v := 0) hC dX6_restore_2 rfl ?_
  refine z_iconst (pc := 3) (v := 1) hC dX6_restore_3 rfl ?_
  refine z_cS (pc := 4) (st := [.ref (g.1 95)]) hC [.int x, .int 0, .int 1] (kX6_in C.2.1 g N I P J x 0 1) zkX6_in zm_4_135 ⟨rfl, rfl⟩ rfl rfl hRm ⟨Nat.le_of_ble_eq_true rfl, Nat.le_of_ble_eq_true rfl⟩ (Nat.le_of_ble_eq_true rfl) ⟨Nat.zero_le _, Nat.zero_le _⟩ dX6_restore_4 ?_
  refine z_if_ne (pc := 7) (tgt := 14) hC dX6_restore_7 (by decide) (fun h7 => ?_) (fun h7 => ?_)
  · skip
    have g7 := zB_t h7
    obtain ⟨q0, q1⟩ := of_decide_eq_true g7
    obtain ⟨t, ht, rfl⟩ := z01 q0 q1
    refine z_aload_n (pc := 14) hC 0 dX6_restore_14 rfl rfl z_isr_r ?_
    refine z_gF (pc := 15) hC 6 2 (t := 98) rfl (z_lt hC (by decide)) rfl inX6 (by decide) rfl zm_4_75 rfl dX6_restore_15 ?_
    refine z_iload_n (pc := 18) hC 1 dX6_restore_18 rfl rfl ?_
    refine z_zaN (pc := 19) hC t (x := I 98 t) rfl (z_lt hC (by decide)) rfl ht (by decide) rfl dX6_restore_19 ?_
    refine z_if_ne (pc := 20) (tgt := 27) hC dX6_restore_20 (by decide) (fun h20 => ?_) (fun h20 => ?_)
    · skip
      refine z_iconst (pc := 27) (v := 0) hC dX6_restore_27 rfl ?_
      refine z_pI (pc := 28) hC 6 3 rfl (z_lt hC (by decide)) rfl inX6 tyX6_ok nmX6 (by decide) rfl zm_4_76 rfl rfl rfl dX6_restore_28 ?_
      refine z_aload_n (pc := 31) hC 0 dX6_restore_31 rfl rfl z_isr_r ?_
      refine z_gI (pc := 32) hC 6 3 (x := 0) rfl (z_lt hC (by decide)) rfl inX6 (by decide) rfl zm_4_76 (z_u_s _ _ _ _) dX6_restore_32 ?_
      refine z_if_ne (pc := 35) (tgt := 71) hC dX6_restore_35 (by decide) (fun h35 => ?_) (fun h35 => ?_)
      · skip
        exact absurd h35 (by decide)
      · skip
        refine z_iconst (pc := 38) (v := 0) hC dX6_restore_38 rfl ?_
        refine z_istore_n (pc := 39) (lv' := [(2, .int 0), (0, .ref (g.1 95)), (1, .int (nI t))]) hC dX6_restore_39 rfl (by decide) rfl ?_
        have L40 : ∀ (zf : Nat) (k : Nat) (hk : k ≤ 843), 843 - k < zf → zJ C g N 3 0 0 (zrow (fun j => I 97 (843 * t + j)) (z_u I 95 3 0) 96 k) P J 40 [(2, .int (nI k)), (0, .ref (g.1 95)), (1, .int (nI t))] [] := by
          intro zf
          induction zf with
          | zero =>
            intro k hk hn2
            exact absurd hn2 (Nat.not_lt_zero _)
          | succ zf ih =>
            intro k hk hn2
            refine z_iload_n (pc := 40) hC 0 dX6_restore_40 rfl rfl ?_
            refine z_sipush (pc := 41) (v := 843) hC dX6_restore_41 rfl ?_
            refine z_icmp_ge (pc := 44) (tgt := 71) hC dX6_restore_44 (by decide) (fun h44 => ?_) (fun h44 => ?_)
            · skip
              have g44 := Int32.not_lt.mpr h44
              have ek : k = 843 := Nat.le_antisymm hk (zc_ge (n := 843) h44 (by omega) (by decide))
              subst ek
              exact z_vret (pc := 71) hC hE dX6_restore_71 ⟨rfl, rfl, rfl, Or.inr (Or.inr ⟨t, rfl, ht, h20, rfl⟩)⟩
            · skip
              have g44 := Int32.not_le.mp h44
              have hk8 : k < 843 := zc_lt (n := 843) h44 (by omega) (by decide)
              refine z_aload_n (pc := 47) hC 1 dX6_restore_47 rfl rfl z_isr_r ?_
              refine z_gF (pc := 48) hC 6 0 (t := 96) rfl (z_lt hC (by decide)) rfl inX6 (by decide) rfl zm_4_73 rfl dX6_restore_48 ?_
              refine z_iload_n (pc := 51) hC 0 dX6_restore_51 rfl rfl ?_
              refine z_aload_n (pc := 52) hC 1 dX6_restore_52 rfl rfl z_isr_r ?_
              refine z_gF (pc := 53) hC 6 1 (t := 97) rfl (z_lt hC (by decide)) rfl inX6 (by decide) rfl zm_4_74 rfl dX6_restore_53 ?_
              refine z_sipush (pc := 56) (v := 843) hC dX6_restore_56 rfl ?_
              refine z_iload_n (pc := 59) hC 2 dX6_restore_59 rfl rfl ?_
              refine z_imul (pc := 60) hC dX6_restore_60 ?_
              refine z_iload_n (pc := 61) hC 0 dX6_restore_61 rfl rfl ?_
              refine z_iadd (pc := 62) hC dX6_restore_62 ?_
              refine z_iaN (pc := 63) hC (843 * t + k) (x := I 97 (843 * t + k)) rfl (z_lt hC (by decide)) (zix843 t k) (by omega) (by decide) ((zrow_o _ _ (by decide)).trans (z_u_a _ _ (by decide))) dX6_restore_63 ?_
              refine z_isN (pc := 64) hC k rfl (z_lt hC (by decide)) rfl (by omega) (by decide) dX6_restore_64 ?_
              refine z_iinc (pc := 65) (v := nI (k + 1)) (lv' := [(2, .int (nI (k + 1))), (0, .ref (g.1 95)), (1, .int (nI t))]) hC 0 dX6_restore_65 rfl (nI_1 k) (by decide) rfl ?_
              refine z_goto (pc := 68) (tgt := 40) hC dX6_restore_68 (by decide) ?_
              have K := ih (k + 1) (by omega) (by omega)
              rw [← zrow_s] at K
              exact K
        have K := L40 844 0 (by decide) (by decide)
        rw [zrow_0] at K
        exact K
    · skip
      refine z_iconst (pc := 23) (v := 2) hC dX6_restore_23 rfl ?_
      refine z_goto (pc := 24) (tgt := 28) hC dX6_restore_24 (by decide) ?_
      refine z_pI (pc := 28) hC 6 3 rfl (z_lt hC (by decide)) rfl inX6 tyX6_ok nmX6 (by decide) rfl zm_4_76 rfl rfl rfl dX6_restore_28 ?_
      refine z_aload_n (pc := 31) hC 0 dX6_restore_31 rfl rfl z_isr_r ?_
      refine z_gI (pc := 32) hC 6 3 (x := 2) rfl (z_lt hC (by decide)) rfl inX6 (by decide) rfl zm_4_76 (z_u_s _ _ _ _) dX6_restore_32 ?_
      refine z_if_ne (pc := 35) (tgt := 71) hC dX6_restore_35 (by decide) (fun h35 => ?_) (fun h35 => ?_)
      · skip
        exact z_vret (pc := 71) hC hE dX6_restore_71 ⟨rfl, rfl, rfl, Or.inr (Or.inl ⟨t, rfl, ht, h20, rfl⟩)⟩
      · skip
        exact absurd h35 (by decide)
  · skip
    have g7 := zB_f h7
    refine z_iconst (pc := 10) (v := 1) hC dX6_restore_10 rfl ?_
    refine z_goto (pc := 11) (tgt := 28) hC dX6_restore_11 (by decide) ?_
    refine z_pI (pc := 28) hC 6 3 rfl (z_lt hC (by decide)) rfl inX6 tyX6_ok nmX6 (by decide) rfl zm_4_76 rfl rfl rfl dX6_restore_28 ?_
    refine z_aload_n (pc := 31) hC 0 dX6_restore_31 rfl rfl z_isr_r ?_
    refine z_gI (pc := 32) hC 6 3 (x := 1) rfl (z_lt hC (by decide)) rfl inX6 (by decide) rfl zm_4_76 (z_u_s _ _ _ _) dX6_restore_32 ?_
    refine z_if_ne (pc := 35) (tgt := 71) hC dX6_restore_35 (by decide) (fun h35 => ?_) (fun h35 => ?_)
    · skip
      exact z_vret (pc := 71) hC hE dX6_restore_71 ⟨rfl, rfl, rfl, Or.inl ⟨of_decide_eq_false g7, rfl⟩⟩
    · skip
      exact absurd h35 (by decide)
end ZM15
