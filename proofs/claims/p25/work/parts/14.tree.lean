section ZTR
theorem zkX4_at : z_pkV yX4_at cX4_at 2 (Option.some (FieldType.object "FlexibleBoxes$Box")) RX4 1 := ⟨zm_1_226, zm_1_227, zm_1_2, zm_1_228, rfl, by decide, by decide, by decide +kernel⟩
theorem zkX4_shownAt : z_pkV yX4_shownAt cX4_shownAt 3 (Option.some (FieldType.object "FlexibleBoxes$Box")) RX4 1 := ⟨zm_2_108, zm_2_109, zm_1_2, zm_2_110, rfl, by decide, by decide, by decide +kernel⟩
theorem zkX4_isFull : z_pkV yX4_isFull cX4_isFull 1 (Option.some FieldType.boolean) RX4 0 := ⟨zm_2_58, zm_2_59, zm_1_2, zm_2_60, rfl, by decide, by decide, by decide +kernel⟩
theorem zkX4_append : z_pkV yX4_append cX4_append 3 (Option.some FieldType.int) RX4 1 := ⟨zm_2_78, zm_2_79, zm_1_2, zm_2_80, rfl, by decide, by decide, by decide +kernel⟩
theorem zkX4_link : z_pkV yX4_link cX4_link 3 (Option.none : Option FieldType) RX4 0 := ⟨zm_2_91, zm_2_92, zm_1_2, zm_2_93, rfl, by decide, by decide, by decide +kernel⟩
/-- what adopt leaves: the chain of b with c put in; no other link changed -/
def zadopt (I : Nat → Nat → Int32) (P : Nat → Nat → Option Nat) (J : Nat → Nat → Int64) (b c : Nat) (l : List Nat) : Option Value → (Nat → Nat → Int32) → (Nat → Nat → Option Nat) → (Nat → Nat → Int64) → Prop := fun v I' P' J' =>
  v = none ∧ I' = z_u I b 8 (I b 8 + 1) ∧ J' = J ∧ zchain P' (P' b 6) (zins (fun x => I (40 + x) 17) c l) ∧ ∀ x k, ¬ (x = b ∧ k = 6) → ¬ (k = 7 ∧ (x ∈ l ∨ x = c)) → P' x k = P x k
theorem zadopt_front {I : Nat → Nat → Int32} {P : Nat → Nat → Option Nat} {J : Nat → Nat → Int64} {b c : Nat} {l : List Nat} (hc : c ∉ l) (h : zchain P (P b 6) l) (h2 : ∀ x, l.head? = some x → ¬ I (40 + x) 17 ≤ I (40 + c) 17) : zadopt I P J b c l none (z_u I b 8 (I b 8 + 1)) (z_u (z_u P c 7 (P b 6)) b 6 (some c)) J := by
  have e : zins (fun x => I (40 + x) 17) c l = c :: l := zins_app (l1 := []) h2 (fun _ q => by cases q)
  refine ⟨rfl, rfl, rfl, ?_, fun x k h3 h4 => ?_⟩
  · rw [e, z_u_s]
    exact zchain_front hc h
  · unfold z_u
    rw [if_neg h3, if_neg (fun q => h4 ⟨q.2, Or.inr q.1⟩)]
theorem zadopt_mid {I : Nat → Nat → Int32} {P : Nat → Nat → Option Nat} {J : Nat → Nat → Int64} {b c y : Nat} {l1 l2 : List Nat} (hn : (l1 ++ y :: l2).Nodup) (hc : c ∉ l1 ++ y :: l2) (h : zchain P (P b 6) (l1 ++ y :: l2)) (h1 : ∀ x ∈ l1 ++ [y], I (40 + x) 17 ≤ I (40 + c) 17) (h2 : ∀ x, l2.head? = some x → ¬ I (40 + x) 17 ≤ I (40 + c) 17) : zadopt I P J b c (l1 ++ y :: l2) none (z_u I b 8 (I b 8 + 1)) (z_u (z_u P c 7 (P y 7)) y 7 (some c)) J := by
  have e0 : l1 ++ y :: l2 = (l1 ++ [y]) ++ l2 := by rw [List.append_assoc]; rfl
  have e : zins (fun x => I (40 + x) 17) c (l1 ++ y :: l2) = l1 ++ y :: c :: l2 := by
    rw [e0, zins_app h2 h1, List.append_assoc]
    rfl
  refine ⟨rfl, rfl, rfl, ?_, fun x k h3 h4 => ?_⟩
  · rw [e, z_u_b _ _ (by decide), z_u_b _ _ (by decide)]
    exact zchain_mid hn hc h
  · unfold z_u
    rw [if_neg (fun q => h4 ⟨q.2, Or.inl (by rw [q.1]; exact List.mem_append_right _ List.mem_cons_self)⟩), if_neg (fun q => h4 ⟨q.2, Or.inr q.1⟩)]
set_option maxHeartbeats 4000000 in
set_option maxRecDepth 100000 in
theorem kX0_adopt (lx : Launch) (g : zG) (N : Nat) (I : Nat → Nat → Int32) (P : Nat → Nat → Option Nat) (J : Nat → Nat → Int64) (b c : Nat) (hb : b < 40) (hc : c < 40) (l : List Nat) (hl : ∀ x ∈ l, x < 40) (hn : l.Nodup) (hcl : c ∉ l) (hch : zchain P (P b 6) l) : z_Ct lx yX0_adopt (zT yX0_adopt cX0_adopt 4 (Option.none : Option FieldType)) ({ frames := 1, cells := 0, slots := 0, locals := 21 } : Room) g N I P J [.ref (g.1 b), .ref (g.1 c)] (zadopt I P J b c l) 0 0 := by
  refine z_of (by decide) (Nat.le_of_ble_eq_true rfl) (lv0 := [(0, .ref (g.1 b)), (1, .ref (g.1 c))]) rfl ?_
  intro C hlx hC hE hRm
  have hC : zX C cX0_adopt 4 RX0 (zT yX0_adopt cX0_adopt 4 (Option.none : Option FieldType)) g N := hC
  refine z_null (pc := 0) hC dX0_adopt_0 ?_
  refine z_astore_n (pc := 1) (lv' := [(2, .null), (0, .ref (g.1 b)), (1, .ref (g.1 c))]) hC dX0_adopt_1 rfl (by decide) z_isr_n rfl ?_
  refine z_aload_n (pc := 2) hC 1 dX0_adopt_2 rfl rfl z_isr_r ?_
  refine z_gP (pc := 3) hC 0 6 (v := va_rf (Option.map g.1 (P b 6))) (z_shb hb) (z_ltb hC hb) rfl inX0 (by decide) rfl zm_1_54 rfl dX0_adopt_3 ?_
  refine z_astore_n (pc := 6) (lv' := [(3, va_rf (Option.map g.1 (P b 6))), (2, .null), (0, .ref (g.1 b)), (1, .ref (g.1 c))]) hC dX0_adopt_6 rfl (by decide) (z_isr_o _) rfl ?_
  have L7 : ∀ (zf : Nat) (bf ot : Option Nat) (l1 l2 : List Nat) (hll : l1 ++ l2 = l) (hbf : bf = l1.getLast?) (h1 : ∀ x ∈ l1, I (40 + x) 17 ≤ I (40 + c) 17) (h2 : zchain P ot l2), l2.length < zf → zJ C g N 4 0 0 I P J 7 [(3, va_rf (Option.map g.1 ot)), (2, va_rf (Option.map g.1 bf)), (0, .ref (g.1 b)), (1, .ref (g.1 c))] [] := by
    intro zf
    induction zf with
    | zero =>
      intro bf ot l1 l2 hll hbf h1 h2 hn2
      exact absurd hn2 (Nat.not_lt_zero _)
    | succ zf ih =>
      intro bf ot l1 l2 hll hbf h1 h2 hn2
      refine z_aload_n (pc := 7) hC 0 dX0_adopt_7 rfl rfl (z_isr_o _) ?_
      refine z_ifnull (pc := 8) (tgt := 36) hC dX0_adopt_8 (by decide) (fun h8 => ?_) (fun a8 h8 => ?_)
      · skip
        rw [h8]
        show zJ C g N 4 0 0 I P J 36 [(3, .null), (2, va_rf (Option.map g.1 bf)), (0, .ref (g.1 b)), (1, .ref (g.1 c))] []
        have e2 : l2 = [] := by
          cases l2 with
          | nil => rfl
          | cons x xs => rw [h8] at h2; cases h2.1
        subst e2
        have hh : ∀ x, ([] : List Nat).head? = some x → ¬ I (40 + x) 17 ≤ I (40 + c) 17 := fun x q => by cases q
        refine z_aload_n (pc := 36) hC 1 dX0_adopt_36 rfl rfl (z_isr_o _) ?_
        refine z_ifnonnull (pc := 37) (tgt := 56) hC dX0_adopt_37 (by decide) (fun a37 h37 => ?_) (fun h37 => ?_)
        · skip
          rw [h37]
          show zJ C g N 4 0 0 I P J 56 [(3, .null), (2, .ref (g.1 a37)), (0, .ref (g.1 b)), (1, .ref (g.1 c))] []
          obtain ⟨l0, rfl⟩ : ∃ l0, l1 = l0 ++ [a37] := by
            rcases List.eq_nil_or_concat l1 with q | ⟨l0, y, q⟩
            · rw [q] at hbf; rw [h37] at hbf; cases hbf
            · rw [List.concat_eq_append] at q; rw [q, List.getLast?_concat, h37] at hbf; cases hbf; exact ⟨l0, q⟩
          rw [List.append_assoc] at hll
          have hy : a37 < 40 := hl a37 (by rw [← hll]; exact List.mem_append_right _ List.mem_cons_self)
          subst hll
          refine z_aload_n (pc := 56) hC 3 dX0_adopt_56 rfl rfl z_isr_r ?_
          refine z_aload_n (pc := 57) hC 1 dX0_adopt_57 rfl rfl z_isr_r ?_
          refine z_gP (pc := 58) hC 0 7 (v := va_rf (Option.map g.1 (P a37 7))) (z_shb hy) (z_ltb hC hy) rfl inX0 (by decide) rfl zm_1_57 rfl dX0_adopt_58 ?_
          refine z_pP (pc := 61) hC 0 7 (r := (P a37 7)) (z_shb hc) (z_ltb hC hc) rfl inX0 tyX0_ok nmX0 (by decide) rfl zm_1_57 rfl rfl rfl dX0_adopt_61 ?_
          refine z_aload_n (pc := 64) hC 1 dX0_adopt_64 rfl rfl z_isr_r ?_
          refine z_aload_n (pc := 65) hC 3 dX0_adopt_65 rfl rfl z_isr_r ?_
          refine z_pP (pc := 66) hC 0 7 (r := (some c)) (z_shb hy) (z_ltb hC hy) rfl inX0 tyX0_ok nmX0 (by decide) rfl zm_1_57 rfl rfl rfl dX0_adopt_66 ?_
          refine z_aload_n (pc := 69) hC 2 dX0_adopt_69 rfl rfl z_isr_r ?_
          refine z_dup (pc := 70) hC dX0_adopt_70 rfl ?_
          refine z_gI (pc := 71) hC 0 8 (x := I b 8) (z_shb hb) (z_ltb hC hb) rfl inX0 (by decide) rfl zm_1_60 rfl dX0_adopt_71 ?_
          refine z_iconst (pc := 74) (v := 1) hC dX0_adopt_74 rfl ?_
          refine z_iadd (pc := 75) hC dX0_adopt_75 ?_
          refine z_pI (pc := 76) hC 0 8 (z_shb hb) (z_ltb hC hb) rfl inX0 tyX0_ok nmX0 (by decide) rfl zm_1_60 rfl rfl rfl dX0_adopt_76 ?_
          exact z_vret (pc := 79) hC hE dX0_adopt_79 (zadopt_mid hn hcl hch h1 hh)
        · skip
          rw [h37]
          show zJ C g N 4 0 0 I P J 40 [(3, .null), (2, .null), (0, .ref (g.1 b)), (1, .ref (g.1 c))] []
          have e1 : l1 = [] := by
            rcases List.eq_nil_or_concat l1 with q | ⟨l0, y, q⟩
            · exact q
            · rw [List.concat_eq_append] at q; rw [q, List.getLast?_concat, h37] at hbf; cases hbf
          subst e1
          rw [List.nil_append] at hll
          subst hll
          refine z_aload_n (pc := 40) hC 3 dX0_adopt_40 rfl rfl z_isr_r ?_
          refine z_aload_n (pc := 41) hC 2 dX0_adopt_41 rfl rfl z_isr_r ?_
          refine z_gP (pc := 42) hC 0 6 (v := va_rf (Option.map g.1 (P b 6))) (z_shb hb) (z_ltb hC hb) rfl inX0 (by decide) rfl zm_1_54 rfl dX0_adopt_42 ?_
          refine z_pP (pc := 45) hC 0 7 (r := (P b 6)) (z_shb hc) (z_ltb hC hc) rfl inX0 tyX0_ok nmX0 (by decide) rfl zm_1_57 rfl rfl rfl dX0_adopt_45 ?_
          refine z_aload_n (pc := 48) hC 2 dX0_adopt_48 rfl rfl z_isr_r ?_
          refine z_aload_n (pc := 49) hC 3 dX0_adopt_49 rfl rfl z_isr_r ?_
          refine z_pP (pc := 50) hC 0 6 (r := (some c)) (z_shb hb) (z_ltb hC hb) rfl inX0 tyX0_ok nmX0 (by decide) rfl zm_1_54 rfl rfl rfl dX0_adopt_50 ?_
          refine z_goto (pc := 53) (tgt := 69) hC dX0_adopt_53 (by decide) ?_
          refine z_aload_n (pc := 69) hC 2 dX0_adopt_69 rfl rfl z_isr_r ?_
          refine z_dup (pc := 70) hC dX0_adopt_70 rfl ?_
          refine z_gI (pc := 71) hC 0 8 (x := I b 8) (z_shb hb) (z_ltb hC hb) rfl inX0 (by decide) rfl zm_1_60 rfl dX0_adopt_71 ?_
          refine z_iconst (pc := 74) (v := 1) hC dX0_adopt_74 rfl ?_
          refine z_iadd (pc := 75) hC dX0_adopt_75 ?_
          refine z_pI (pc := 76) hC 0 8 (z_shb hb) (z_ltb hC hb) rfl inX0 tyX0_ok nmX0 (by decide) rfl zm_1_60 rfl rfl rfl dX0_adopt_76 ?_
          exact z_vret (pc := 79) hC hE dX0_adopt_79 (zadopt_front hcl hch hh)
      · skip
        rw [h8]
        show zJ C g N 4 0 0 I P J 11 [(3, .ref (g.1 a8)), (2, va_rf (Option.map g.1 bf)), (0, .ref (g.1 b)), (1, .ref (g.1 c))] []
        obtain ⟨l3, rfl, hz⟩ : ∃ l3, l2 = a8 :: l3 ∧ zchain P (some a8) (a8 :: l3) := by
          cases l2 with
          | nil => rw [h8] at h2; cases h2
          | cons x xs => obtain ⟨q1, q2⟩ := h2; rw [h8] at q1; cases q1; exact ⟨xs, rfl, rfl, q2⟩
        have ha8 : a8 < 40 := hl a8 (by rw [← hll]; exact List.mem_append_right _ List.mem_cons_self)
        rw [List.length_cons] at hn2
        refine z_aload_n (pc := 11) hC 0 dX0_adopt_11 rfl rfl z_isr_r ?_
        refine z_bipush (pc := 12) (v := 17) hC dX0_adopt_12 rfl ?_
        refine z_cV (pc := 14) (st := []) hC [.int 17] (kX0_of C.2.1 g N I P J a8 17 ha8 (by decide) 17 rfl (I (40 + a8) 17) rfl) (z_shb ha8) (z_ltb hC ha8) rfl zkX0_of zm_2_106 ⟨rfl, rfl⟩ rfl rfl hRm ⟨Nat.le_of_ble_eq_true rfl, Nat.le_of_ble_eq_true rfl⟩ (Nat.le_of_ble_eq_true rfl) ⟨Nat.zero_le _, Nat.zero_le _⟩ dX0_adopt_14 ?_
        refine z_aload_n (pc := 17) hC 3 dX0_adopt_17 rfl rfl z_isr_r ?_
        refine z_bipush (pc := 18) (v := 17) hC dX0_adopt_18 rfl ?_
        refine z_cV (pc := 20) (st := [.int (I (40 + a8) 17)]) hC [.int 17] (kX0_of C.2.1 g N I P J c 17 hc (by decide) 17 rfl (I (40 + c) 17) rfl) (z_shb hc) (z_ltb hC hc) rfl zkX0_of zm_2_106 ⟨rfl, rfl⟩ rfl rfl hRm ⟨Nat.le_of_ble_eq_true rfl, Nat.le_of_ble_eq_true rfl⟩ (Nat.le_of_ble_eq_true rfl) ⟨Nat.zero_le _, Nat.zero_le _⟩ dX0_adopt_20 ?_
        refine z_icmp_gt (pc := 23) (tgt := 36) hC dX0_adopt_23 (by decide) (fun h23 => ?_) (fun h23 => ?_)
        · skip
          have g23 := Int32.not_le.mpr h23
          have hh : ∀ x, (a8 :: l3).head? = some x → ¬ I (40 + x) 17 ≤ I (40 + c) 17 := fun x q => by cases q; exact g23
          refine z_aload_n (pc := 36) hC 1 dX0_adopt_36 rfl rfl (z_isr_o _) ?_
          refine z_ifnonnull (pc := 37) (tgt := 56) hC dX0_adopt_37 (by decide) (fun a37 h37 => ?_) (fun h37 => ?_)
          · skip
            rw [h37]
            show zJ C g N 4 0 0 I P J 56 [(3, .ref (g.1 a8)), (2, .ref (g.1 a37)), (0, .ref (g.1 b)), (1, .ref (g.1 c))] []
            obtain ⟨l0, rfl⟩ : ∃ l0, l1 = l0 ++ [a37] := by
              rcases List.eq_nil_or_concat l1 with q | ⟨l0, y, q⟩
              · rw [q] at hbf; rw [h37] at hbf; cases hbf
              · rw [List.concat_eq_append] at q; rw [q, List.getLast?_concat, h37] at hbf; cases hbf; exact ⟨l0, q⟩
            rw [List.append_assoc] at hll
            have hy : a37 < 40 := hl a37 (by rw [← hll]; exact List.mem_append_right _ List.mem_cons_self)
            subst hll
            refine z_aload_n (pc := 56) hC 3 dX0_adopt_56 rfl rfl z_isr_r ?_
            refine z_aload_n (pc := 57) hC 1 dX0_adopt_57 rfl rfl z_isr_r ?_
            refine z_gP (pc := 58) hC 0 7 (v := va_rf (Option.map g.1 (P a37 7))) (z_shb hy) (z_ltb hC hy) rfl inX0 (by decide) rfl zm_1_57 rfl dX0_adopt_58 ?_
            refine z_pP (pc := 61) hC 0 7 (r := (P a37 7)) (z_shb hc) (z_ltb hC hc) rfl inX0 tyX0_ok nmX0 (by decide) rfl zm_1_57 rfl rfl rfl dX0_adopt_61 ?_
            refine z_aload_n (pc := 64) hC 1 dX0_adopt_64 rfl rfl z_isr_r ?_
            refine z_aload_n (pc := 65) hC 3 dX0_adopt_65 rfl rfl z_isr_r ?_
            refine z_pP (pc := 66) hC 0 7 (r := (some c)) (z_shb hy) (z_ltb hC hy) rfl inX0 tyX0_ok nmX0 (by decide) rfl zm_1_57 rfl rfl rfl dX0_adopt_66 ?_
            refine z_aload_n (pc := 69) hC 2 dX0_adopt_69 rfl rfl z_isr_r ?_
            refine z_dup (pc := 70) hC dX0_adopt_70 rfl ?_
            refine z_gI (pc := 71) hC 0 8 (x := I b 8) (z_shb hb) (z_ltb hC hb) rfl inX0 (by decide) rfl zm_1_60 rfl dX0_adopt_71 ?_
            refine z_iconst (pc := 74) (v := 1) hC dX0_adopt_74 rfl ?_
            refine z_iadd (pc := 75) hC dX0_adopt_75 ?_
            refine z_pI (pc := 76) hC 0 8 (z_shb hb) (z_ltb hC hb) rfl inX0 tyX0_ok nmX0 (by decide) rfl zm_1_60 rfl rfl rfl dX0_adopt_76 ?_
            exact z_vret (pc := 79) hC hE dX0_adopt_79 (zadopt_mid hn hcl hch h1 hh)
          · skip
            rw [h37]
            show zJ C g N 4 0 0 I P J 40 [(3, .ref (g.1 a8)), (2, .null), (0, .ref (g.1 b)), (1, .ref (g.1 c))] []
            have e1 : l1 = [] := by
              rcases List.eq_nil_or_concat l1 with q | ⟨l0, y, q⟩
              · exact q
              · rw [List.concat_eq_append] at q; rw [q, List.getLast?_concat, h37] at hbf; cases hbf
            subst e1
            rw [List.nil_append] at hll
            subst hll
            refine z_aload_n (pc := 40) hC 3 dX0_adopt_40 rfl rfl z_isr_r ?_
            refine z_aload_n (pc := 41) hC 2 dX0_adopt_41 rfl rfl z_isr_r ?_
            refine z_gP (pc := 42) hC 0 6 (v := va_rf (Option.map g.1 (P b 6))) (z_shb hb) (z_ltb hC hb) rfl inX0 (by decide) rfl zm_1_54 rfl dX0_adopt_42 ?_
            refine z_pP (pc := 45) hC 0 7 (r := (P b 6)) (z_shb hc) (z_ltb hC hc) rfl inX0 tyX0_ok nmX0 (by decide) rfl zm_1_57 rfl rfl rfl dX0_adopt_45 ?_
            refine z_aload_n (pc := 48) hC 2 dX0_adopt_48 rfl rfl z_isr_r ?_
            refine z_aload_n (pc := 49) hC 3 dX0_adopt_49 rfl rfl z_isr_r ?_
            refine z_pP (pc := 50) hC 0 6 (r := (some c)) (z_shb hb) (z_ltb hC hb) rfl inX0 tyX0_ok nmX0 (by decide) rfl zm_1_54 rfl rfl rfl dX0_adopt_50 ?_
            refine z_goto (pc := 53) (tgt := 69) hC dX0_adopt_53 (by decide) ?_
            refine z_aload_n (pc := 69) hC 2 dX0_adopt_69 rfl rfl z_isr_r ?_
            refine z_dup (pc := 70) hC dX0_adopt_70 rfl ?_
            refine z_gI (pc := 71) hC 0 8 (x := I b 8) (z_shb hb) (z_ltb hC hb) rfl inX0 (by decide) rfl zm_1_60 rfl dX0_adopt_71 ?_
            refine z_iconst (pc := 74) (v := 1) hC dX0_adopt_74 rfl ?_
            refine z_iadd (pc := 75) hC dX0_adopt_75 ?_
            refine z_pI (pc := 76) hC 0 8 (z_shb hb) (z_ltb hC hb) rfl inX0 tyX0_ok nmX0 (by decide) rfl zm_1_60 rfl rfl rfl dX0_adopt_76 ?_
            exact z_vret (pc := 79) hC hE dX0_adopt_79 (zadopt_front hcl hch hh)
        · skip
          have g23 := Int32.not_lt.mp h23
          refine z_aload_n (pc := 26) hC 0 dX0_adopt_26 rfl rfl z_isr_r ?_
          refine z_astore_n (pc := 27) (lv' := [(2, .ref (g.1 a8)), (3, .ref (g.1 a8)), (0, .ref (g.1 b)), (1, .ref (g.1 c))]) hC dX0_adopt_27 rfl (by decide) z_isr_r rfl ?_
          refine z_aload_n (pc := 28) hC 1 dX0_adopt_28 rfl rfl z_isr_r ?_
          refine z_gP (pc := 29) hC 0 7 (v := va_rf (Option.map g.1 (P a8 7))) (z_shb ha8) (z_ltb hC ha8) rfl inX0 (by decide) rfl zm_1_57 rfl dX0_adopt_29 ?_
          refine z_astore_n (pc := 32) (lv' := [(3, va_rf (Option.map g.1 (P a8 7))), (2, .ref (g.1 a8)), (0, .ref (g.1 b)), (1, .ref (g.1 c))]) hC dX0_adopt_32 rfl (by decide) (z_isr_o _) rfl ?_
          refine z_goto (pc := 33) (tgt := 7) hC dX0_adopt_33 (by decide) ?_
          show zJ C g N 4 0 0 I P J 7 [(3, va_rf (Option.map g.1 (P a8 7))), (2, va_rf (Option.map g.1 (some a8))), (0, .ref (g.1 b)), (1, .ref (g.1 c))] []
          exact ih (some a8) (P a8 7) (l1 ++ [a8]) l3 (by rw [List.append_assoc]; exact hll) (by rw [List.getLast?_concat]) (fun x hx => (List.mem_append.mp hx).elim (h1 x) (fun q => by rw [List.mem_singleton.mp q]; exact g23)) hz.2 (by omega)
  have hin := L7 (l.length + 1) none (P b 6) [] l rfl rfl (fun _ q => by cases q) hch (Nat.lt_succ_self _)
  exact hin
set_option maxHeartbeats 4000000 in
set_option maxRecDepth 100000 in
theorem kX4_at (lx : Launch) (g : zG) (N : Nat) (I : Nat → Nat → Int32) (P : Nat → Nat → Option Nat) (J : Nat → Nat → Int64) (k : Nat) (hk : k < 40) (x : Int32) (hx : x = nI k) : z_Ct lx yX4_at (zT yX4_at cX4_at 2 (Option.some (FieldType.object "FlexibleBoxes$Box"))) ({ frames := 0, cells := 0, slots := 0, locals := 0 } : Room) g N I P J [.ref (g.1 81), .int x] (zMu (some (.ref (g.1 k))) I P J) 0 0 := by
  refine z_of (by decide) (Nat.le_of_ble_eq_true rfl) (lv0 := [(0, .ref (g.1 81)), (1, .int x)]) rfl ?_
  intro C hlx hC hE hRm
  have hC : zX C cX4_at 2 RX4 (zT yX4_at cX4_at 2 (Option.some (FieldType.object "FlexibleBoxes$Box"))) g N := hC
  refine z_iload_n (pc := 0) hC 1 dX4_at_0 rfl rfl ?_
  refine z_if_lt (pc := 1) (tgt := 19) hC dX4_at_1 (by decide) (fun h1 => ?_) (fun h1 => ?_)
  · skip
    have g1 := Int32.not_le.mpr h1
    exact absurd h1 (by rw [hx]; exact nI_pos (by omega))
  · skip
    have g1 := Int32.not_lt.mp h1
    refine z_iload_n (pc := 4) hC 1 dX4_at_4 rfl rfl ?_
    refine z_bipush (pc := 5) (v := 40) hC dX4_at_5 rfl ?_
    refine z_icmp_ge (pc := 7) (tgt := 19) hC dX4_at_7 (by decide) (fun h7 => ?_) (fun h7 => ?_)
    · skip
      have g7 := Int32.not_lt.mpr h7
      exact absurd h7 (by rw [hx]; intro q; exact nI_ge (a := k) (b := 40) hk (by decide) q)
    · skip
      have g7 := Int32.not_le.mp h7
      refine z_aload_n (pc := 10) hC 0 dX4_at_10 rfl rfl z_isr_r ?_
      refine z_gF (pc := 11) hC 4 0 (t := 84) rfl (z_lt hC (by decide)) rfl inX4 (by decide) rfl zm_1_126 rfl dX4_at_11 ?_
      refine z_iload_n (pc := 14) hC 1 dX4_at_14 rfl rfl ?_
      refine z_baN (pc := 15) hC k hx hk dX4_at_15 ?_
      refine z_goto (pc := 16) (tgt := 20) hC dX4_at_16 (by decide) ?_
      exact z_aret (pc := 20) hC hE z_isr_r dX4_at_20 (zMu_i rfl)
set_option maxHeartbeats 4000000 in
set_option maxRecDepth 100000 in
theorem kX4_atN (lx : Launch) (g : zG) (N : Nat) (I : Nat → Nat → Int32) (P : Nat → Nat → Option Nat) (J : Nat → Nat → Int64) (x : Int32) (hx : ¬ (0 ≤ x ∧ x < 40)) : z_Ct lx yX4_at (zT yX4_at cX4_at 2 (Option.some (FieldType.object "FlexibleBoxes$Box"))) ({ frames := 0, cells := 0, slots := 0, locals := 0 } : Room) g N I P J [.ref (g.1 81), .int x] (zMu (some .null) I P J) 0 0 := by
  refine z_of (by decide) (Nat.le_of_ble_eq_true rfl) (lv0 := [(0, .ref (g.1 81)), (1, .int x)]) rfl ?_
  intro C hlx hC hE hRm
  have hC : zX C cX4_at 2 RX4 (zT yX4_at cX4_at 2 (Option.some (FieldType.object "FlexibleBoxes$Box"))) g N := hC
  refine z_iload_n (pc := 0) hC 1 dX4_at_0 rfl rfl ?_
  refine z_if_lt (pc := 1) (tgt := 19) hC dX4_at_1 (by decide) (fun h1 => ?_) (fun h1 => ?_)
  · skip
    have g1 := Int32.not_le.mpr h1
    refine z_null (pc := 19) hC dX4_at_19 ?_
    exact z_aret (pc := 20) hC hE z_isr_n dX4_at_20 (zMu_i rfl)
  · skip
    have g1 := Int32.not_lt.mp h1
    refine z_iload_n (pc := 4) hC 1 dX4_at_4 rfl rfl ?_
    refine z_bipush (pc := 5) (v := 40) hC dX4_at_5 rfl ?_
    refine z_icmp_ge (pc := 7) (tgt := 19) hC dX4_at_7 (by decide) (fun h7 => ?_) (fun h7 => ?_)
    · skip
      have g7 := Int32.not_lt.mpr h7
      refine z_null (pc := 19) hC dX4_at_19 ?_
      exact z_aret (pc := 20) hC hE z_isr_n dX4_at_20 (zMu_i rfl)
    · skip
      have g7 := Int32.not_le.mp h7
      exact absurd ⟨Int32.not_lt.mp h1, g7⟩ hx
set_option maxHeartbeats 4000000 in
set_option maxRecDepth 100000 in
theorem kX4_shownAt (lx : Launch) (g : zG) (N : Nat) (I : Nat → Nat → Int32) (P : Nat → Nat → Option Nat) (J : Nat → Nat → Int64) (k : Nat) (hk : k < 40) (x : Int32) (hx : x = nI k) : z_Ct lx yX4_shownAt (zT yX4_shownAt cX4_shownAt 3 (Option.some (FieldType.object "FlexibleBoxes$Box"))) ({ frames := 1, cells := 0, slots := 0, locals := 21 } : Room) g N I P J [.ref (g.1 81), .int x] (zMu (some (va_rf (Option.map g.1 (zshn I k)))) I P J) 0 0 := by
  refine z_of (by decide) (Nat.le_of_ble_eq_true rfl) (lv0 := [(0, .ref (g.1 81)), (1, .int x)]) rfl ?_
  intro C hlx hC hE hRm
  have hC : zX C cX4_shownAt 3 RX4 (zT yX4_shownAt cX4_shownAt 3 (Option.some (FieldType.object "FlexibleBoxes$Box"))) g N := hC
  refine z_aload_n (pc := 0) hC 0 dX4_shownAt_0 rfl rfl z_isr_r ?_
  refine z_iload_n (pc := 1) hC 1 dX4_shownAt_1 rfl rfl ?_
  refine z_cV (pc := 2) (st := []) hC [.int x] (kX4_at C.2.1 g N I P J k hk x hx) rfl (z_lt hC (by decide)) rfl zkX4_at zm_2_81 ⟨rfl, rfl⟩ rfl rfl hRm ⟨Nat.le_of_ble_eq_true rfl, Nat.le_of_ble_eq_true rfl⟩ (Nat.le_of_ble_eq_true rfl) ⟨Nat.zero_le _, Nat.zero_le _⟩ dX4_shownAt_2 ?_
  refine z_astore_n (pc := 5) (lv' := [(2, .ref (g.1 k)), (0, .ref (g.1 81)), (1, .int x)]) hC dX4_shownAt_5 rfl (by decide) z_isr_r rfl ?_
  refine z_aload_n (pc := 6) hC 0 dX4_shownAt_6 rfl rfl z_isr_r ?_
  refine z_ifnullR (pc := 7) hC dX4_shownAt_7 ?_
  refine z_aload_n (pc := 10) hC 0 dX4_shownAt_10 rfl rfl z_isr_r ?_
  refine z_gI (pc := 11) hC 0 2 (x := I k 2) (z_shb hk) (z_ltb hC hk) rfl inX0 (by decide) rfl zm_1_40 rfl dX4_shownAt_11 ?_
  refine z_if_eq (pc := 14) (tgt := 28) hC dX4_shownAt_14 (by decide) (fun h14 => ?_) (fun h14 => ?_)
  · skip
    refine z_null (pc := 28) hC dX4_shownAt_28 ?_
    exact z_aret (pc := 29) hC hE z_isr_n dX4_shownAt_29 (zMu_i (by simp [zshn, h14]; try rfl))
  · skip
    refine z_aload_n (pc := 17) hC 0 dX4_shownAt_17 rfl rfl z_isr_r ?_
    refine z_gI (pc := 18) hC 0 5 (x := I k 5) (z_shb hk) (z_ltb hC hk) rfl inX0 (by decide) rfl zm_1_49 rfl dX4_shownAt_18 ?_
    refine z_if_eq (pc := 21) (tgt := 28) hC dX4_shownAt_21 (by decide) (fun h21 => ?_) (fun h21 => ?_)
    · skip
      refine z_null (pc := 28) hC dX4_shownAt_28 ?_
      exact z_aret (pc := 29) hC hE z_isr_n dX4_shownAt_29 (zMu_i (by simp [zshn, h14, h21]; try rfl))
    · skip
      refine z_aload_n (pc := 24) hC 0 dX4_shownAt_24 rfl rfl z_isr_r ?_
      refine z_goto (pc := 25) (tgt := 29) hC dX4_shownAt_25 (by decide) ?_
      exact z_aret (pc := 29) hC hE z_isr_r dX4_shownAt_29 (zMu_i (by simp [zshn, h14, h21]; try rfl))
set_option maxHeartbeats 4000000 in
set_option maxRecDepth 100000 in
theorem kX4_isFull (lx : Launch) (g : zG) (N : Nat) (I : Nat → Nat → Int32) (P : Nat → Nat → Option Nat) (J : Nat → Nat → Int64)  : z_Ct lx yX4_isFull (zT yX4_isFull cX4_isFull 1 (Option.some FieldType.boolean)) ({ frames := 0, cells := 0, slots := 0, locals := 0 } : Room) g N I P J [.ref (g.1 81)] (zMu (some (.int (zB (decide (40 ≤ I 81 2))))) I P J) 0 0 := by
  refine z_of (by decide) (Nat.le_of_ble_eq_true rfl) (lv0 := [(0, .ref (g.1 81))]) rfl ?_
  intro C hlx hC hE hRm
  have hC : zX C cX4_isFull 1 RX4 (zT yX4_isFull cX4_isFull 1 (Option.some FieldType.boolean)) g N := hC
  refine z_aload_n (pc := 0) hC 0 dX4_isFull_0 rfl rfl z_isr_r ?_
  refine z_gI (pc := 1) hC 4 2 (x := I 81 2) rfl (z_lt hC (by decide)) rfl inX4 (by decide) rfl zm_1_129 rfl dX4_isFull_1 ?_
  refine z_bipush (pc := 4) (v := 40) hC dX4_isFull_4 rfl ?_
  refine z_icmp_lt (pc := 6) (tgt := 13) hC dX4_isFull_6 (by decide) (fun h6 => ?_) (fun h6 => ?_)
  · skip
    have g6 := Int32.not_le.mpr h6
    refine z_iconst (pc := 13) (v := 0) hC dX4_isFull_13 rfl ?_
    exact z_zret (pc := 14) hC hE (z_b01 (Or.inl rfl)) dX4_isFull_14 (zMu_i (by simp [zB, h6, g6]))
  · skip
    have g6 := Int32.not_lt.mp h6
    refine z_iconst (pc := 9) (v := 1) hC dX4_isFull_9 rfl ?_
    refine z_goto (pc := 10) (tgt := 14) hC dX4_isFull_10 (by decide) ?_
    exact z_zret (pc := 14) hC hE (z_b01 (Or.inr rfl)) dX4_isFull_14 (zMu_i (by simp [zB, h6, g6]))
set_option maxHeartbeats 4000000 in
set_option maxRecDepth 100000 in
theorem kX4_append (lx : Launch) (g : zG) (N : Nat) (I : Nat → Nat → Int32) (P : Nat → Nat → Option Nat) (J : Nat → Nat → Int64) (gv a : Nat) (hg : gv < 40) (ha : a < 40) (hgv : I 81 2 = nI gv) (hn : I gv 0 = nI gv) : z_Ct lx yX4_append (zT yX4_append cX4_append 3 (Option.some FieldType.int)) ({ frames := 1, cells := 0, slots := 0, locals := 22 } : Room) g N I P J [.ref (g.1 81), .ref (g.1 a)] (zMu (some (.int (nI gv))) (z_u (zrow (z_st 2) (z_u I gv 2 1) (40 + gv) 20) 81 2 (I 81 2 + 1)) (z_u P gv 3 (some a)) J) 0 0 := by
  refine z_of (by decide) (Nat.le_of_ble_eq_true rfl) (lv0 := [(0, .ref (g.1 81)), (1, .ref (g.1 a))]) rfl ?_
  intro C hlx hC hE hRm
  have hC : zX C cX4_append 3 RX4 (zT yX4_append cX4_append 3 (Option.some FieldType.int)) g N := hC
  refine z_aload_n (pc := 0) hC 0 dX4_append_0 rfl rfl z_isr_r ?_
  refine z_aload_n (pc := 1) hC 0 dX4_append_1 rfl rfl z_isr_r ?_
  refine z_gI (pc := 2) hC 4 2 (x := I 81 2) rfl (z_lt hC (by decide)) rfl inX4 (by decide) rfl zm_1_129 rfl dX4_append_2 ?_
  refine z_cV (pc := 5) (st := []) hC [.int (I 81 2)] (kX4_at C.2.1 g N I P J gv hg (I 81 2) hgv) rfl (z_lt hC (by decide)) rfl zkX4_at zm_2_81 ⟨rfl, rfl⟩ rfl rfl hRm ⟨Nat.le_of_ble_eq_true rfl, Nat.le_of_ble_eq_true rfl⟩ (Nat.le_of_ble_eq_true rfl) ⟨Nat.zero_le _, Nat.zero_le _⟩ dX4_append_5 ?_
  refine z_astore_n (pc := 8) (lv' := [(2, .ref (g.1 gv)), (0, .ref (g.1 81)), (1, .ref (g.1 a))]) hC dX4_append_8 rfl (by decide) z_isr_r rfl ?_
  refine z_aload_n (pc := 9) hC 0 dX4_append_9 rfl rfl z_isr_r ?_
  refine z_ifnonnullR (pc := 10) (tgt := 15) hC dX4_append_10 (by decide) ?_
  refine z_aload_n (pc := 15) hC 0 dX4_append_15 rfl rfl z_isr_r ?_
  refine z_aload_n (pc := 16) hC 2 dX4_append_16 rfl rfl z_isr_r ?_
  refine z_cV (pc := 17) (st := []) hC [.ref (g.1 a)] (kX0_begin C.2.1 g N I P J gv hg (some a)) (z_shb hg) (z_ltb hC hg) rfl zkX0_begin zm_1_120 ⟨rfl, rfl⟩ rfl rfl hRm ⟨Nat.le_of_ble_eq_true rfl, Nat.le_of_ble_eq_true rfl⟩ (Nat.le_of_ble_eq_true rfl) ⟨Nat.zero_le _, Nat.zero_le _⟩ dX4_append_17 ?_
  refine z_aload_n (pc := 20) hC 1 dX4_append_20 rfl rfl z_isr_r ?_
  refine z_dup (pc := 21) hC dX4_append_21 rfl ?_
  refine z_gI (pc := 22) hC 4 2 (x := I 81 2) rfl (z_lt hC (by decide)) rfl inX4 (by decide) rfl zm_1_129 (by unfold zrow z_u; rw [if_neg (fun q => absurd q.1 (by omega)), if_neg (fun q => absurd q.1 (by omega))]) dX4_append_22 ?_
  refine z_iconst (pc := 25) (v := 1) hC dX4_append_25 rfl ?_
  refine z_iadd (pc := 26) hC dX4_append_26 ?_
  refine z_pI (pc := 27) hC 4 2 rfl (z_lt hC (by decide)) rfl inX4 tyX4_ok nmX4 (by decide) rfl zm_1_129 rfl rfl rfl dX4_append_27 ?_
  refine z_aload_n (pc := 30) hC 0 dX4_append_30 rfl rfl z_isr_r ?_
  refine z_gI (pc := 31) hC 0 0 (x := nI gv) (z_shb hg) (z_ltb hC hg) rfl inX0 (by decide) rfl zm_1_35 (by rw [z_u_a _ _ (show gv ≠ 81 by omega)]; show (if gv = 40 + gv ∧ 0 < 20 then _ else z_u I gv 2 1 gv 0) = _; rw [if_neg (fun q => absurd q.1 (by omega)), z_u_b _ _ (by decide)]; exact hn) dX4_append_31 ?_
  exact z_iret (pc := 34) hC hE dX4_append_34 (zMu_i rfl)
theorem zcnt_s {f : Nat → Bool} {i : Nat} : sCnt f (i + 1) = if f i = true then sCnt f i + 1 else sCnt f i := rfl
/-- what link() leaves -/
def zlinkQ (σ : zS) (I : Nat → Nat → Int32) (P : Nat → Nat → Option Nat) (J : Nat → Nat → Int64) : Option Value → (Nat → Nat → Int32) → (Nat → Nat → Option Nat) → (Nat → Nat → Int64) → Prop := fun v I' P' J' => v = none ∧ J' = J ∧ zLk σ I' P' ∧ zFrI I I' ∧ zFrP P P'
theorem z_u_r2 {α : Type} (f : Nat → Nat → α) {i k a b : Nat} {v : α} (h : ¬ (a = i ∧ b = k)) : z_u f i k v a b = f a b := if_neg h
theorem zins_congr {o1 o2 : Nat → Int32} {c : Nat} : ∀ {l : List Nat}, (∀ x, x = c ∨ x ∈ l → o1 x = o2 x) → zins o1 c l = zins o2 c l
  | [], _ => rfl
  | y :: ys, h => by
    unfold zins
    rw [h y (Or.inr List.mem_cons_self), h c (Or.inl rfl), zins_congr (fun x hx => h x (hx.imp id (fun q => List.mem_cons_of_mem _ q)))]
set_option maxHeartbeats 4000000 in
set_option maxRecDepth 100000 in
theorem kX4_link (lx : Launch) (g : zG) (N : Nat) (I : Nat → Nat → Int32) (P : Nat → Nat → Option Nat) (J : Nat → Nat → Int64) (σ : zS) (ht : zTr σ I P) : z_Ct lx yX4_link (zT yX4_link cX4_link 3 (Option.none : Option FieldType)) ({ frames := 2, cells := 0, slots := 0, locals := 44 } : Room) g N I P J [.ref (g.1 81)] (zlinkQ σ I P J) 0 0 := by
  refine z_of (by decide) (Nat.le_of_ble_eq_true rfl) (lv0 := [(0, .ref (g.1 81))]) rfl ?_
  intro C hlx hC hE hRm
  have hC : zX C cX4_link 3 RX4 (zT yX4_link cX4_link 3 (Option.none : Option FieldType)) g N := hC
  refine z_iconst (pc := 0) (v := 0) hC dX4_link_0 rfl ?_
  refine z_istore_n (pc := 1) (lv' := [(1, .int 0), (0, .ref (g.1 81))]) hC dX4_link_1 rfl (by decide) rfl ?_
  have L2 : ∀ (zf : Nat) (i : Nat) (hi : i ≤ 40), 40 - i < zf → zJ C g N 3 0 0 (zunl I i) (zunlP P i) J 2 [(1, .int (nI i)), (0, .ref (g.1 81))] [] := by
    intro zf
    induction zf with
    | zero =>
      intro i hi hn2
      exact absurd hn2 (Nat.not_lt_zero _)
    | succ zf ih =>
      intro i hi hn2
      refine z_iload_n (pc := 2) hC 0 dX4_link_2 rfl rfl ?_
      refine z_bipush (pc := 3) (v := 40) hC dX4_link_3 rfl ?_
      refine z_icmp_ge (pc := 5) (tgt := 28) hC dX4_link_5 (by decide) (fun h5 => ?_) (fun h5 => ?_)
      · skip
        have g5 := Int32.not_lt.mpr h5
        have e5 : i = 40 := Nat.le_antisymm hi (zc_ge (n := 40) h5 (by omega) (by decide))
        subst e5
        refine z_aload_n (pc := 28) hC 1 dX4_link_28 rfl rfl z_isr_r ?_
        refine z_gF (pc := 29) hC 4 1 (t := 0) rfl (z_lt hC (by decide)) rfl inX4 (by decide) rfl zm_1_127 rfl dX4_link_29 ?_
        refine z_iconst (pc := 32) (v := 1) hC dX4_link_32 rfl ?_
        refine z_pI (pc := 33) hC 0 5 (z_shb (by decide)) (z_ltb hC (by decide)) rfl inX0 tyX0_ok nmX0 (by decide) rfl zm_1_49 rfl (z_b01 (Or.inr rfl)) (z_f01 (Or.inr rfl)) dX4_link_33 ?_
        refine z_iconst (pc := 36) (v := 1) hC dX4_link_36 rfl ?_
        refine z_istore_n (pc := 37) (lv' := [(1, .int 1), (0, .ref (g.1 81))]) hC dX4_link_37 rfl (by decide) rfl ?_
        have L38 : ∀ (zf : Nat) (m : Nat) (Ia : Nat → Nat → Int32) (Pa : Nat → Nat → Option Nat) (hm : m ≤ 40) (hm1 : 1 ≤ m) (hL : zLkN σ m Ia Pa) (hFI : zFrI I Ia) (hFP : zFrP P Pa), 40 - m < zf → zJ C g N 3 0 0 Ia Pa J 38 [(1, .int (nI m)), (0, .ref (g.1 81))] [] := by
          intro zf
          induction zf with
          | zero =>
            intro m Ia Pa hm hm1 hL hFI hFP hn2
            exact absurd hn2 (Nat.not_lt_zero _)
          | succ zf ih =>
            intro m Ia Pa hm hm1 hL hFI hFP hn2
            refine z_iload_n (pc := 38) hC 0 dX4_link_38 rfl rfl ?_
            refine z_bipush (pc := 39) (v := 40) hC dX4_link_39 rfl ?_
            refine z_icmp_ge (pc := 41) (tgt := 110) hC dX4_link_41 (by decide) (fun h41 => ?_) (fun h41 => ?_)
            · skip
              have g41 := Int32.not_lt.mpr h41
              have e41 : m = 40 := Nat.le_antisymm hm (zc_ge (n := 40) h41 (by omega) (by decide))
              subst e41
              exact z_vret (pc := 110) hC hE dX4_link_110 ⟨rfl, rfl, hL, hFI, hFP⟩
            · skip
              have g41 := Int32.not_le.mp h41
              have e41 : m < 40 := zc_lt (n := 40) h41 (by omega) (by decide)
              refine z_aload_n (pc := 44) hC 1 dX4_link_44 rfl rfl z_isr_r ?_
              refine z_iload_n (pc := 45) hC 0 dX4_link_45 rfl rfl ?_
              refine z_cV (pc := 46) (st := []) hC [.int (nI m)] (kX4_at C.2.1 g N Ia Pa J m e41 (nI m) rfl) rfl (z_lt hC (by decide)) rfl zkX4_at zm_2_81 ⟨rfl, rfl⟩ rfl rfl hRm ⟨Nat.le_of_ble_eq_true rfl, Nat.le_of_ble_eq_true rfl⟩ (Nat.le_of_ble_eq_true rfl) ⟨Nat.zero_le _, Nat.zero_le _⟩ dX4_link_46 ?_
              refine z_astore_n (pc := 49) (lv' := [(2, .ref (g.1 m)), (1, .int (nI m)), (0, .ref (g.1 81))]) hC dX4_link_49 rfl (by decide) z_isr_r rfl ?_
              refine z_aload_n (pc := 50) hC 0 dX4_link_50 rfl rfl z_isr_r ?_
              refine z_ifnullR (pc := 51) hC dX4_link_51 ?_
              refine z_aload_n (pc := 54) hC 0 dX4_link_54 rfl rfl z_isr_r ?_
              refine z_gI (pc := 55) hC 0 2 (x := zB (sEx σ m)) (z_shb e41) (z_ltb hC e41) rfl inX0 (by decide) rfl zm_1_40 ((hFI m 2 (by omega)).trans (ht.2.2.1 m e41)) dX4_link_55 ?_
              refine z_if_eq (pc := 58) (tgt := 104) hC dX4_link_58 (by decide) (fun h58 => ?_) (fun h58 => ?_)
              · skip
                have g58 := zB_f h58
                refine z_iinc (pc := 104) (v := nI (m + 1)) (lv' := [(1, .int (nI (m + 1))), (2, .ref (g.1 m)), (0, .ref (g.1 81))]) hC 1 dX4_link_104 rfl (nI_1 m) (by decide) rfl ?_
                refine z_goto (pc := 107) (tgt := 38) hC dX4_link_107 (by decide) ?_
                refine z_lvs (lv' := [(1, .int (nI (m + 1))), (0, .ref (g.1 81))]) [0, 2] rfl ?_
                exact ih (m + 1) Ia Pa (by omega) (by omega) (zLkN_no (by omega) g58 hL) hFI hFP (by omega)
              · skip
                have g58 := zB_t h58
                have hpa := ht.1.2.2.2.2.1 m g58 (by omega)
                have hpm : sPa σ m < 40 := by omega
                have hp3 : Pa m 3 = some (sPa σ m) := (hFP m 3 (by omega)).trans (ht.2.2.2.1 m g58 (by omega))
                refine z_aload_n (pc := 61) hC 0 dX4_link_61 rfl rfl z_isr_r ?_
                refine z_gP (pc := 62) hC 0 3 (v := .ref (g.1 (sPa σ m))) (z_shb e41) (z_ltb hC e41) rfl inX0 (by decide) rfl zm_1_43 (by rw [hp3]; rfl) dX4_link_62 ?_
                refine z_ifnullR (pc := 65) hC dX4_link_65 ?_
                refine z_aload_n (pc := 68) hC 0 dX4_link_68 rfl rfl z_isr_r ?_
                refine z_gP (pc := 69) hC 0 3 (v := .ref (g.1 (sPa σ m))) (z_shb e41) (z_ltb hC e41) rfl inX0 (by decide) rfl zm_1_43 (by rw [hp3]; rfl) dX4_link_69 ?_
                refine z_iconst (pc := 72) (v := 1) hC dX4_link_72 rfl ?_
                refine z_pI (pc := 73) hC 0 4 (z_shb hpm) (z_ltb hC hpm) rfl inX0 tyX0_ok nmX0 (by decide) rfl zm_1_46 rfl (z_b01 (Or.inr rfl)) (z_f01 (Or.inr rfl)) dX4_link_73 ?_
                refine z_aload_n (pc := 76) hC 0 dX4_link_76 rfl rfl z_isr_r ?_
                refine z_bipush (pc := 77) (v := 18) hC dX4_link_77 rfl ?_
                refine z_cV (pc := 79) (st := []) hC [.int 18] (kX0_of C.2.1 g N (z_u Ia (sPa σ m) 4 1) Pa J m 18 e41 (by decide) 18 rfl (Ia (40 + m) 18) (z_u_b _ _ (by decide))) (z_shb e41) (z_ltb hC e41) rfl zkX0_of zm_2_98 ⟨rfl, rfl⟩ rfl rfl hRm ⟨Nat.le_of_ble_eq_true rfl, Nat.le_of_ble_eq_true rfl⟩ (Nat.le_of_ble_eq_true rfl) ⟨Nat.zero_le _, Nat.zero_le _⟩ dX4_link_79 ?_
                refine z_if_ne (pc := 82) (tgt := 104) hC dX4_link_82 (by decide) (fun h82 => ?_) (fun h82 => ?_)
                · skip
                  have hhid : ¬ sSt σ m 18 = 0 := fun q => h82 (by rw [hFI _ _ (by omega), ht.2.2.2.2.2.2.1 m 18 g58 (by decide)]; exact q)
                  refine z_iinc (pc := 104) (v := nI (m + 1)) (lv' := [(1, .int (nI (m + 1))), (2, .ref (g.1 m)), (0, .ref (g.1 81))]) hC 1 dX4_link_104 rfl (nI_1 m) (by decide) rfl ?_
                  refine z_goto (pc := 107) (tgt := 38) hC dX4_link_107 (by decide) ?_
                  refine z_lvs (lv' := [(1, .int (nI (m + 1))), (0, .ref (g.1 81))]) [0, 2] rfl ?_
                  refine ih (m + 1) _ _ (by omega) (by omega) (zLkN_hid (by omega) g58 hhid hL) (fun a k q => ?_) hFP (by omega)
                  rw [z_u_r2 _ (fun z => q ⟨by rw [z.1]; exact hpm, Or.inl z.2⟩)]; exact hFI a k q
                · skip
                  have hhid : sSt σ m 18 = 0 := by rw [← ht.2.2.2.2.2.2.1 m 18 g58 (by decide), ← hFI _ _ (by omega)]; exact h82
                  refine z_aload_n (pc := 85) hC 0 dX4_link_85 rfl rfl z_isr_r ?_
                  refine z_aload_n (pc := 86) hC 0 dX4_link_86 rfl rfl z_isr_r ?_
                  refine z_gP (pc := 87) hC 0 3 (v := .ref (g.1 (sPa σ m))) (z_shb e41) (z_ltb hC e41) rfl inX0 (by decide) rfl zm_1_43 (by rw [hp3]; rfl) dX4_link_87 ?_
                  refine z_gI (pc := 90) hC 0 5 (x := zB (sShN σ m (sPa σ m))) (z_shb hpm) (z_ltb hC hpm) rfl inX0 (by decide) rfl zm_1_49 ((z_u_b _ _ (by decide)).trans (hL.1 _ hpm).2.1) dX4_link_90 ?_
                  refine z_pI (pc := 93) hC 0 5 (z_shb e41) (z_ltb hC e41) rfl inX0 tyX0_ok nmX0 (by decide) rfl zm_1_49 rfl (z_b01 (zB_01 _)) (z_f01 (zB_01 _)) dX4_link_93 ?_
                  refine z_aload_n (pc := 96) hC 0 dX4_link_96 rfl rfl z_isr_r ?_
                  refine z_gP (pc := 97) hC 0 3 (v := .ref (g.1 (sPa σ m))) (z_shb e41) (z_ltb hC e41) rfl inX0 (by decide) rfl zm_1_43 (by rw [hp3]; rfl) dX4_link_97 ?_
                  refine z_aload_n (pc := 100) hC 0 dX4_link_100 rfl rfl z_isr_r ?_
                  refine z_callV (pc := 101) (st := []) hC [.ref (g.1 m)] (kX0_adopt C.2.1 g N (z_u (z_u Ia (sPa σ m) 4 1) m 5 (zB (sShN σ m (sPa σ m)))) Pa J (sPa σ m) m hpm e41 (sKidsN σ (sPa σ m) m) (fun x hx => by have := (sKidsN_mem.mp hx).1; omega) sKidsN_nodup (fun q => Nat.lt_irrefl _ (sKidsN_mem.mp q).1) (hL.1 _ hpm).2.2.2) (z_shb hpm) (z_ltb hC hpm) rfl zkX0_adopt zm_2_102 ⟨rfl, rfl⟩ rfl rfl hRm ⟨Nat.le_of_ble_eq_true rfl, Nat.le_of_ble_eq_true rfl⟩ (Nat.le_of_ble_eq_true rfl) ⟨Nat.zero_le _, Nat.zero_le _⟩ dX4_link_101 ?_
                  intro v I2 P2 J2 hq
                  obtain ⟨rfl, rfl, rfl, hz, hfr⟩ := hq
                  have hz2 : zchain P2 (P2 (sPa σ m) 6) (zins (fun x => sSt σ x 17) m (sKidsN σ (sPa σ m) m)) := by
                    refine zins_congr ?_ ▸ hz
                    intro x hx
                    have hx1 : sEx σ x = true := hx.elim (fun y => by rw [y]; exact g58) (fun y => (sV_iff.mp (sKidsN_mem.mp y).2).2.1)
                    have hx2 : x < 40 := Nat.lt_of_lt_of_le (ht.1.2.2.2.1 x hx1) ht.1.2.2.1
                    rw [z_u_b _ _ (by decide), z_u_b _ _ (by decide), hFI _ _ (by omega)]
                    exact ht.2.2.2.2.2.2.1 x 17 hx1 (by decide)
                  have e8 : (z_u (z_u Ia (sPa σ m) 4 1) m 5 (zB (sShN σ m (sPa σ m)))) (sPa σ m) 8 = Ia (sPa σ m) 8 := by rw [z_u_b _ _ (by decide), z_u_b _ _ (by decide)]
                  rw [e8]
                  refine z_iinc (pc := 104) (v := nI (m + 1)) (lv' := [(1, .int (nI (m + 1))), (2, .ref (g.1 m)), (0, .ref (g.1 81))]) hC 1 dX4_link_104 rfl (nI_1 m) (by decide) rfl ?_
                  refine z_goto (pc := 107) (tgt := 38) hC dX4_link_107 (by decide) ?_
                  refine z_lvs (lv' := [(1, .int (nI (m + 1))), (0, .ref (g.1 81))]) [0, 2] rfl ?_
                  refine ih (m + 1) _ _ (by omega) (by omega) (zLkN_vis ht.1 (by omega) e41 g58 hhid hL rfl hz2 hfr) (fun a k q => ?_) (fun a k q => ?_) (by omega)
                  · rw [z_u_r2 _ (fun z => q ⟨by rw [z.1]; exact hpm, Or.inr (Or.inr z.2)⟩), z_u_r2 _ (fun z => q ⟨by rw [z.1]; exact e41, Or.inr (Or.inl z.2)⟩), z_u_r2 _ (fun z => q ⟨by rw [z.1]; exact hpm, Or.inl z.2⟩)]; exact hFI a k q
                  · rw [hfr a k (fun z => q ⟨by rw [z.1]; exact hpm, Or.inl z.2⟩) (fun z => q ⟨z.2.elim (fun y => by have := (sKidsN_mem.mp y).1; omega) (fun y => by omega), Or.inr z.1⟩)]; exact hFP a k q
        obtain ⟨k1, k2, k3⟩ := zLkN_1 σ I P
        exact L38 40 1 _ _ (by decide) (by decide) k1 k2 k3 (by decide)
      · skip
        have g5 := Int32.not_le.mp h5
        have e5 : i < 40 := zc_lt (n := 40) h5 (by omega) (by decide)
        refine z_aload_n (pc := 8) hC 1 dX4_link_8 rfl rfl z_isr_r ?_
        refine z_iload_n (pc := 9) hC 0 dX4_link_9 rfl rfl ?_
        refine z_cV (pc := 10) (st := []) hC [.int (nI i)] (kX4_at C.2.1 g N (zunl I i) (zunlP P i) J i e5 (nI i) rfl) rfl (z_lt hC (by decide)) rfl zkX4_at zm_2_81 ⟨rfl, rfl⟩ rfl rfl hRm ⟨Nat.le_of_ble_eq_true rfl, Nat.le_of_ble_eq_true rfl⟩ (Nat.le_of_ble_eq_true rfl) ⟨Nat.zero_le _, Nat.zero_le _⟩ dX4_link_10 ?_
        refine z_astore_n (pc := 13) (lv' := [(2, .ref (g.1 i)), (1, .int (nI i)), (0, .ref (g.1 81))]) hC dX4_link_13 rfl (by decide) z_isr_r rfl ?_
        refine z_aload_n (pc := 14) hC 0 dX4_link_14 rfl rfl z_isr_r ?_
        refine z_ifnullR (pc := 15) hC dX4_link_15 ?_
        refine z_aload_n (pc := 18) hC 0 dX4_link_18 rfl rfl z_isr_r ?_
        refine z_cV (pc := 19) (st := []) hC [] (kX0_unlink C.2.1 g N (zunl I i) (zunlP P i) J i e5) (z_shb e5) (z_ltb hC e5) rfl zkX0_unlink zm_2_94 ⟨rfl, rfl⟩ rfl rfl hRm ⟨Nat.le_of_ble_eq_true rfl, Nat.le_of_ble_eq_true rfl⟩ (Nat.le_of_ble_eq_true rfl) ⟨Nat.zero_le _, Nat.zero_le _⟩ dX4_link_19 ?_
        refine z_iinc (pc := 22) (v := nI (i + 1)) (lv' := [(1, .int (nI (i + 1))), (2, .ref (g.1 i)), (0, .ref (g.1 81))]) hC 1 dX4_link_22 rfl (nI_1 i) (by decide) rfl ?_
        refine z_goto (pc := 25) (tgt := 2) hC dX4_link_25 (by decide) ?_
        rw [zunl_s, zunlP_s]
        refine z_lvs (lv' := [(1, .int (nI (i + 1))), (0, .ref (g.1 81))]) [0, 2] rfl ?_
        exact ih (i + 1) (by omega) (by omega)
  have L := L2 41 0 (by decide) (by decide)
  rw [zunl_0, zunlP_0] at L
  exact L
end ZTR
