section ZTR
/-- what adopt leaves: the chain of b with c put in; no other link changed -/
def zadopt (I : Nat → Nat → Int32) (P : Nat → Nat → Option Nat) (J : Nat → Nat → Int64) (b c : Nat) (l : List Nat) : Option Value → (Nat → Nat → Int32) → (Nat → Nat → Option Nat) → (Nat → Nat → Int64) → Prop := fun v I' P' J' =>
  v = none ∧ I' = z_u I b 8 (I b 8 + 1) ∧ J' = J ∧ zchain P' (P' b 6) (zins (fun x => I (40 + x) 17) c l) ∧ ∀ x k, ¬ (x = b ∧ k = 6) → ¬ (k = 7 ∧ (x ∈ l ∨ x = c)) → P' x k = P x k
theorem zadopt_front {I : Nat → Nat → Int32} {P : Nat → Nat → Option Nat} {J : Nat → Nat → Int64} {b c : Nat} {l : List Nat} (hc : c ∉ l) (h : zchain P (P b 6) l) (h2 : ∀ x, l.head? = some x → ¬ I (40 + x) 17 ≤ I (40 + c) 17) : zadopt I P J b c l none (z_u I b 8 (I b 8 + 1)) (z_u (z_u P c 7 (P b 6)) b 6 (some c)) J := by
  have e : zins (fun x => I (40 + x) 17) c l = c :: l := zins_app (l1 := []) h2 (fun _ q => by cases q)
  refine ⟨rfl, rfl, rfl, ?_, fun x k h3 h4 => ?_⟩
  · rw [e, z_u_s]
    exact zchain_front hc h
  · unfold z_u
    rw [if_neg h3, if_neg (fun q => h4 ⟨q.2, Or.inr q.1⟩)]
theorem zadopt_mid {I : Nat → Nat → Int32} {P : Nat → Nat → Option Nat} {J : Nat → Nat → Int64} {b c y : Nat} {l1 l2 : List Nat} (hn : (l1 ++ y :: l2).Nodup) (hc : c ∉ l1 ++ y :: l2) (h : zchain P (P b 6) (l1 ++ y :: l2)) (h1 : ∀ x ∈ l1 ++ [y], I (40 + x) 17 ≤ I (40 + c) 17) (h2 : ∀ x, l2.head? = some x → ¬ I (40 + x) 17 ≤ I (40 + c) 17) : zadopt I P J b c (l1 ++ y :: l2) none (z_u I b 8 (I b 8 + 1)) (z_u (z_u P c 7 (P y 7)) y 7 (some c)) J := by
  have e0 : l1 ++ y :: l2 = (l1 ++ [y]) ++ l2 := by rw [List.append_assoc]; rfl
  have e : zins (fun x => I (40 + x) 17) c (l1 ++ y :: l2) = l1 ++ y :: c :: l2 := by
    rw [e0, zins_app h2 h1, List.append_assoc]
    rfl
  refine ⟨rfl, rfl, rfl, ?_, fun x k h3 h4 => ?_⟩
  · rw [e, z_u_b _ _ (by decide), z_u_b _ _ (by decide)]
    exact zchain_mid hn hc h
  · unfold z_u
    rw [if_neg (fun q => h4 ⟨q.2, Or.inl (by rw [q.1]; exact List.mem_append_right _ List.mem_cons_self)⟩), if_neg (fun q => h4 ⟨q.2, Or.inr q.1⟩)]
set_option maxHeartbeats 4000000 in
set_option maxRecDepth 100000 in
theorem kX0_adopt (lx : Launch) (g : zG) (N : Nat) (I : Nat → Nat → Int32) (P : Nat → Nat → Option Nat) (J : Nat → Nat → Int64) (b c : Nat) (hb : b < 40) (hc : c < 40) (l : List Nat) (hl : ∀ x ∈ l, x < 40) (hn : l.Nodup) (hcl : c ∉ l) (hch : zchain P (P b 6) l) : z_Ct lx yX0_adopt (zT yX0_adopt cX0_adopt 4 (Option.none : Option FieldType)) ({ frames := 1, cells := 0, slots := 0, locals := 21 } : Room) g N I P J [.ref (g.1 b), .ref (g.1 c)] (zadopt I P J b c l) 0 0 := by
  refine z_of (by decide) (Nat.le_of_ble_eq_true rfl) (lv0 := [(0, .ref (g.1 b)), (1, .ref (g.1 c))]) rfl ?_
  intro C hlx hC hE hRm
  have hC : zX C cX0_adopt 4 RX0 (zT yX0_adopt cX0_adopt 4 (Option.none : Option FieldType)) g N := hC
  refine z_null (pc := 0) hC dX0_adopt_0 ?_
  refine z_astore_n (pc := 1) (lv' := [(2, .null), (0, .ref (g.1 b)), (1, .ref (g.1 c))]) hC dX0_adopt_1 rfl (by decide) z_isr_n rfl ?_
  refine z_aload_n (pc := 2) hC 1 dX0_adopt_2 rfl rfl z_isr_r ?_
  refine z_gP (pc := 3) hC 0 6 (v := va_rf (Option.map g.1 (P b 6))) (z_shb hb) (z_ltb hC hb) rfl inX0 (by decide) rfl zm_1_58 rfl dX0_adopt_3 ?_
  refine z_astore_n (pc := 6) (lv' := [(3, va_rf (Option.map g.1 (P b 6))), (2, .null), (0, .ref (g.1 b)), (1, .ref (g.1 c))]) hC dX0_adopt_6 rfl (by decide) (z_isr_o _) rfl ?_
  have L7 : ∀ (n : Nat) (bf ot : Option Nat) (l1 l2 : List Nat) (hll : l1 ++ l2 = l) (hbf : bf = l1.getLast?) (h1 : ∀ x ∈ l1, I (40 + x) 17 ≤ I (40 + c) 17) (h2 : zchain P ot l2), l2.length < n → zJ C g N 4 0 0 I P J 7 [(3, va_rf (Option.map g.1 ot)), (2, va_rf (Option.map g.1 bf)), (0, .ref (g.1 b)), (1, .ref (g.1 c))] [] := by
    intro n
    induction n with
    | zero =>
      intro bf ot l1 l2 hll hbf h1 h2 hn2
      exact absurd hn2 (Nat.not_lt_zero _)
    | succ n ih =>
      intro bf ot l1 l2 hll hbf h1 h2 hn2
      refine z_aload_n (pc := 7) hC 0 dX0_adopt_7 rfl rfl (z_isr_o _) ?_
      refine z_ifnull (pc := 8) (tgt := 36) hC dX0_adopt_8 (by decide) (fun h8 => ?_) (fun a8 h8 => ?_)
      · skip
        rw [h8]
        show zJ C g N 4 0 0 I P J 36 [(3, .null), (2, va_rf (Option.map g.1 bf)), (0, .ref (g.1 b)), (1, .ref (g.1 c))] []
        have e2 : l2 = [] := by
          cases l2 with
          | nil => rfl
          | cons x xs => rw [h8] at h2; cases h2.1
        subst e2
        have hh : ∀ x, ([] : List Nat).head? = some x → ¬ I (40 + x) 17 ≤ I (40 + c) 17 := fun x q => by cases q
        refine z_aload_n (pc := 36) hC 1 dX0_adopt_36 rfl rfl (z_isr_o _) ?_
        refine z_ifnonnull (pc := 37) (tgt := 56) hC dX0_adopt_37 (by decide) (fun a37 h37 => ?_) (fun h37 => ?_)
        · skip
          rw [h37]
          show zJ C g N 4 0 0 I P J 56 [(3, .null), (2, .ref (g.1 a37)), (0, .ref (g.1 b)), (1, .ref (g.1 c))] []
          obtain ⟨l0, rfl⟩ : ∃ l0, l1 = l0 ++ [a37] := by
            rcases List.eq_nil_or_concat l1 with q | ⟨l0, y, q⟩
            · rw [q] at hbf; rw [h37] at hbf; cases hbf
            · rw [List.concat_eq_append] at q; rw [q, List.getLast?_concat, h37] at hbf; cases hbf; exact ⟨l0, q⟩
          rw [List.append_assoc] at hll
          have hy : a37 < 40 := hl a37 (by rw [← hll]; exact List.mem_append_right _ List.mem_cons_self)
          subst hll
          refine z_aload_n (pc := 56) hC 3 dX0_adopt_56 rfl rfl z_isr_r ?_
          refine z_aload_n (pc := 57) hC 1 dX0_adopt_57 rfl rfl z_isr_r ?_
          refine z_gP (pc := 58) hC 0 7 (v := va_rf (Option.map g.1 (P a37 7))) (z_shb hy) (z_ltb hC hy) rfl inX0 (by decide) rfl zm_1_61 rfl dX0_adopt_58 ?_
          refine z_pP (pc := 61) hC 0 7 (r := (P a37 7)) (z_shb hc) (z_ltb hC hc) rfl inX0 tyX0_ok nmX0 (by decide) rfl zm_1_61 rfl rfl rfl dX0_adopt_61 ?_
          refine z_aload_n (pc := 64) hC 1 dX0_adopt_64 rfl rfl z_isr_r ?_
          refine z_aload_n (pc := 65) hC 3 dX0_adopt_65 rfl rfl z_isr_r ?_
          refine z_pP (pc := 66) hC 0 7 (r := (some c)) (z_shb hy) (z_ltb hC hy) rfl inX0 tyX0_ok nmX0 (by decide) rfl zm_1_61 rfl rfl rfl dX0_adopt_66 ?_
          refine z_aload_n (pc := 69) hC 2 dX0_adopt_69 rfl rfl z_isr_r ?_
          refine z_dup (pc := 70) hC dX0_adopt_70 rfl ?_
          refine z_gI (pc := 71) hC 0 8 (x := I b 8) (z_shb hb) (z_ltb hC hb) rfl inX0 (by decide) rfl zm_1_64 rfl dX0_adopt_71 ?_
          refine z_iconst (pc := 74) (v := 1) hC dX0_adopt_74 rfl ?_
          refine z_iadd (pc := 75) hC dX0_adopt_75 ?_
          refine z_pI (pc := 76) hC 0 8 (z_shb hb) (z_ltb hC hb) rfl inX0 tyX0_ok nmX0 (by decide) rfl zm_1_64 rfl rfl rfl dX0_adopt_76 ?_
          exact z_vret (pc := 79) hC hE dX0_adopt_79 (zadopt_mid hn hcl hch h1 hh)
        · skip
          rw [h37]
          show zJ C g N 4 0 0 I P J 40 [(3, .null), (2, .null), (0, .ref (g.1 b)), (1, .ref (g.1 c))] []
          have e1 : l1 = [] := by
            rcases List.eq_nil_or_concat l1 with q | ⟨l0, y, q⟩
            · exact q
            · rw [List.concat_eq_append] at q; rw [q, List.getLast?_concat, h37] at hbf; cases hbf
          subst e1
          rw [List.nil_append] at hll
          subst hll
          refine z_aload_n (pc := 40) hC 3 dX0_adopt_40 rfl rfl z_isr_r ?_
          refine z_aload_n (pc := 41) hC 2 dX0_adopt_41 rfl rfl z_isr_r ?_
          refine z_gP (pc := 42) hC 0 6 (v := va_rf (Option.map g.1 (P b 6))) (z_shb hb) (z_ltb hC hb) rfl inX0 (by decide) rfl zm_1_58 rfl dX0_adopt_42 ?_
          refine z_pP (pc := 45) hC 0 7 (r := (P b 6)) (z_shb hc) (z_ltb hC hc) rfl inX0 tyX0_ok nmX0 (by decide) rfl zm_1_61 rfl rfl rfl dX0_adopt_45 ?_
          refine z_aload_n (pc := 48) hC 2 dX0_adopt_48 rfl rfl z_isr_r ?_
          refine z_aload_n (pc := 49) hC 3 dX0_adopt_49 rfl rfl z_isr_r ?_
          refine z_pP (pc := 50) hC 0 6 (r := (some c)) (z_shb hb) (z_ltb hC hb) rfl inX0 tyX0_ok nmX0 (by decide) rfl zm_1_58 rfl rfl rfl dX0_adopt_50 ?_
          refine z_goto (pc := 53) (tgt := 69) hC dX0_adopt_53 (by decide) ?_
          refine z_aload_n (pc := 69) hC 2 dX0_adopt_69 rfl rfl z_isr_r ?_
          refine z_dup (pc := 70) hC dX0_adopt_70 rfl ?_
          refine z_gI (pc := 71) hC 0 8 (x := I b 8) (z_shb hb) (z_ltb hC hb) rfl inX0 (by decide) rfl zm_1_64 rfl dX0_adopt_71 ?_
          refine z_iconst (pc := 74) (v := 1) hC dX0_adopt_74 rfl ?_
          refine z_iadd (pc := 75) hC dX0_adopt_75 ?_
          refine z_pI (pc := 76) hC 0 8 (z_shb hb) (z_ltb hC hb) rfl inX0 tyX0_ok nmX0 (by decide) rfl zm_1_64 rfl rfl rfl dX0_adopt_76 ?_
          exact z_vret (pc := 79) hC hE dX0_adopt_79 (zadopt_front hcl hch hh)
      · skip
        rw [h8]
        show zJ C g N 4 0 0 I P J 11 [(3, .ref (g.1 a8)), (2, va_rf (Option.map g.1 bf)), (0, .ref (g.1 b)), (1, .ref (g.1 c))] []
        obtain ⟨l3, rfl, hz⟩ : ∃ l3, l2 = a8 :: l3 ∧ zchain P (some a8) (a8 :: l3) := by
          cases l2 with
          | nil => rw [h8] at h2; cases h2
          | cons x xs => obtain ⟨q1, q2⟩ := h2; rw [h8] at q1; cases q1; exact ⟨xs, rfl, rfl, q2⟩
        have ha8 : a8 < 40 := hl a8 (by rw [← hll]; exact List.mem_append_right _ List.mem_cons_self)
        rw [List.length_cons] at hn2
        refine z_aload_n (pc := 11) hC 0 dX0_adopt_11 rfl rfl z_isr_r ?_
        refine z_bipush (pc := 12) (v := 17) hC dX0_adopt_12 rfl ?_
        refine z_cV (pc := 14) (st := []) hC [.int 17] (kX0_of C.2.1 g N I P J a8 17 ha8 (by decide) 17 rfl) (z_shb ha8) (z_ltb hC ha8) rfl zkX0_of zm_2_19 ⟨rfl, rfl⟩ rfl rfl hRm ⟨Nat.le_of_ble_eq_true rfl, Nat.le_of_ble_eq_true rfl⟩ (Nat.le_of_ble_eq_true rfl) ⟨Nat.zero_le _, Nat.zero_le _⟩ dX0_adopt_14 ?_
        refine z_aload_n (pc := 17) hC 3 dX0_adopt_17 rfl rfl z_isr_r ?_
        refine z_bipush (pc := 18) (v := 17) hC dX0_adopt_18 rfl ?_
        refine z_cV (pc := 20) (st := [.int (I (40 + a8) 17)]) hC [.int 17] (kX0_of C.2.1 g N I P J c 17 hc (by decide) 17 rfl) (z_shb hc) (z_ltb hC hc) rfl zkX0_of zm_2_19 ⟨rfl, rfl⟩ rfl rfl hRm ⟨Nat.le_of_ble_eq_true rfl, Nat.le_of_ble_eq_true rfl⟩ (Nat.le_of_ble_eq_true rfl) ⟨Nat.zero_le _, Nat.zero_le _⟩ dX0_adopt_20 ?_
        refine z_icmp_gt (pc := 23) (tgt := 36) hC dX0_adopt_23 (by decide) (fun h23 => ?_) (fun h23 => ?_)
        · skip
          have g23 := Int32.not_le.mpr h23
          have hh : ∀ x, (a8 :: l3).head? = some x → ¬ I (40 + x) 17 ≤ I (40 + c) 17 := fun x q => by cases q; exact g23
          refine z_aload_n (pc := 36) hC 1 dX0_adopt_36 rfl rfl (z_isr_o _) ?_
          refine z_ifnonnull (pc := 37) (tgt := 56) hC dX0_adopt_37 (by decide) (fun a37 h37 => ?_) (fun h37 => ?_)
          · skip
            rw [h37]
            show zJ C g N 4 0 0 I P J 56 [(3, .ref (g.1 a8)), (2, .ref (g.1 a37)), (0, .ref (g.1 b)), (1, .ref (g.1 c))] []
            obtain ⟨l0, rfl⟩ : ∃ l0, l1 = l0 ++ [a37] := by
              rcases List.eq_nil_or_concat l1 with q | ⟨l0, y, q⟩
              · rw [q] at hbf; rw [h37] at hbf; cases hbf
              · rw [List.concat_eq_append] at q; rw [q, List.getLast?_concat, h37] at hbf; cases hbf; exact ⟨l0, q⟩
            rw [List.append_assoc] at hll
            have hy : a37 < 40 := hl a37 (by rw [← hll]; exact List.mem_append_right _ List.mem_cons_self)
            subst hll
            refine z_aload_n (pc := 56) hC 3 dX0_adopt_56 rfl rfl z_isr_r ?_
            refine z_aload_n (pc := 57) hC 1 dX0_adopt_57 rfl rfl z_isr_r ?_
            refine z_gP (pc := 58) hC 0 7 (v := va_rf (Option.map g.1 (P a37 7))) (z_shb hy) (z_ltb hC hy) rfl inX0 (by decide) rfl zm_1_61 rfl dX0_adopt_58 ?_
            refine z_pP (pc := 61) hC 0 7 (r := (P a37 7)) (z_shb hc) (z_ltb hC hc) rfl inX0 tyX0_ok nmX0 (by decide) rfl zm_1_61 rfl rfl rfl dX0_adopt_61 ?_
            refine z_aload_n (pc := 64) hC 1 dX0_adopt_64 rfl rfl z_isr_r ?_
            refine z_aload_n (pc := 65) hC 3 dX0_adopt_65 rfl rfl z_isr_r ?_
            refine z_pP (pc := 66) hC 0 7 (r := (some c)) (z_shb hy) (z_ltb hC hy) rfl inX0 tyX0_ok nmX0 (by decide) rfl zm_1_61 rfl rfl rfl dX0_adopt_66 ?_
            refine z_aload_n (pc := 69) hC 2 dX0_adopt_69 rfl rfl z_isr_r ?_
            refine z_dup (pc := 70) hC dX0_adopt_70 rfl ?_
            refine z_gI (pc := 71) hC 0 8 (x := I b 8) (z_shb hb) (z_ltb hC hb) rfl inX0 (by decide) rfl zm_1_64 rfl dX0_adopt_71 ?_
            refine z_iconst (pc := 74) (v := 1) hC dX0_adopt_74 rfl ?_
            refine z_iadd (pc := 75) hC dX0_adopt_75 ?_
            refine z_pI (pc := 76) hC 0 8 (z_shb hb) (z_ltb hC hb) rfl inX0 tyX0_ok nmX0 (by decide) rfl zm_1_64 rfl rfl rfl dX0_adopt_76 ?_
            exact z_vret (pc := 79) hC hE dX0_adopt_79 (zadopt_mid hn hcl hch h1 hh)
          · skip
            rw [h37]
            show zJ C g N 4 0 0 I P J 40 [(3, .ref (g.1 a8)), (2, .null), (0, .ref (g.1 b)), (1, .ref (g.1 c))] []
            have e1 : l1 = [] := by
              rcases List.eq_nil_or_concat l1 with q | ⟨l0, y, q⟩
              · exact q
              · rw [List.concat_eq_append] at q; rw [q, List.getLast?_concat, h37] at hbf; cases hbf
            subst e1
            rw [List.nil_append] at hll
            subst hll
            refine z_aload_n (pc := 40) hC 3 dX0_adopt_40 rfl rfl z_isr_r ?_
            refine z_aload_n (pc := 41) hC 2 dX0_adopt_41 rfl rfl z_isr_r ?_
            refine z_gP (pc := 42) hC 0 6 (v := va_rf (Option.map g.1 (P b 6))) (z_shb hb) (z_ltb hC hb) rfl inX0 (by decide) rfl zm_1_58 rfl dX0_adopt_42 ?_
            refine z_pP (pc := 45) hC 0 7 (r := (P b 6)) (z_shb hc) (z_ltb hC hc) rfl inX0 tyX0_ok nmX0 (by decide) rfl zm_1_61 rfl rfl rfl dX0_adopt_45 ?_
            refine z_aload_n (pc := 48) hC 2 dX0_adopt_48 rfl rfl z_isr_r ?_
            refine z_aload_n (pc := 49) hC 3 dX0_adopt_49 rfl rfl z_isr_r ?_
            refine z_pP (pc := 50) hC 0 6 (r := (some c)) (z_shb hb) (z_ltb hC hb) rfl inX0 tyX0_ok nmX0 (by decide) rfl zm_1_58 rfl rfl rfl dX0_adopt_50 ?_
            refine z_goto (pc := 53) (tgt := 69) hC dX0_adopt_53 (by decide) ?_
            refine z_aload_n (pc := 69) hC 2 dX0_adopt_69 rfl rfl z_isr_r ?_
            refine z_dup (pc := 70) hC dX0_adopt_70 rfl ?_
            refine z_gI (pc := 71) hC 0 8 (x := I b 8) (z_shb hb) (z_ltb hC hb) rfl inX0 (by decide) rfl zm_1_64 rfl dX0_adopt_71 ?_
            refine z_iconst (pc := 74) (v := 1) hC dX0_adopt_74 rfl ?_
            refine z_iadd (pc := 75) hC dX0_adopt_75 ?_
            refine z_pI (pc := 76) hC 0 8 (z_shb hb) (z_ltb hC hb) rfl inX0 tyX0_ok nmX0 (by decide) rfl zm_1_64 rfl rfl rfl dX0_adopt_76 ?_
            exact z_vret (pc := 79) hC hE dX0_adopt_79 (zadopt_front hcl hch hh)
        · skip
          have g23 := Int32.not_lt.mp h23
          refine z_aload_n (pc := 26) hC 0 dX0_adopt_26 rfl rfl z_isr_r ?_
          refine z_astore_n (pc := 27) (lv' := [(2, .ref (g.1 a8)), (3, .ref (g.1 a8)), (0, .ref (g.1 b)), (1, .ref (g.1 c))]) hC dX0_adopt_27 rfl (by decide) z_isr_r rfl ?_
          refine z_aload_n (pc := 28) hC 1 dX0_adopt_28 rfl rfl z_isr_r ?_
          refine z_gP (pc := 29) hC 0 7 (v := va_rf (Option.map g.1 (P a8 7))) (z_shb ha8) (z_ltb hC ha8) rfl inX0 (by decide) rfl zm_1_61 rfl dX0_adopt_29 ?_
          refine z_astore_n (pc := 32) (lv' := [(3, va_rf (Option.map g.1 (P a8 7))), (2, .ref (g.1 a8)), (0, .ref (g.1 b)), (1, .ref (g.1 c))]) hC dX0_adopt_32 rfl (by decide) (z_isr_o _) rfl ?_
          refine z_goto (pc := 33) (tgt := 7) hC dX0_adopt_33 (by decide) ?_
          show zJ C g N 4 0 0 I P J 7 [(3, va_rf (Option.map g.1 (P a8 7))), (2, va_rf (Option.map g.1 (some a8))), (0, .ref (g.1 b)), (1, .ref (g.1 c))] []
          exact ih (some a8) (P a8 7) (l1 ++ [a8]) l3 (by rw [List.append_assoc]; exact hll) (by rw [List.getLast?_concat]) (fun x hx => (List.mem_append.mp hx).elim (h1 x) (fun q => by rw [List.mem_singleton.mp q]; exact g23)) hz.2 (by omega)
  have hin := L7 (l.length + 1) none (P b 6) [] l rfl rfl (fun _ q => by cases q) hch (Nat.lt_succ_self _)
  exact hin
end ZTR
