section ZCT3
set_option maxHeartbeats 4000000 in
set_option maxRecDepth 100000 in
theorem kI6_firstOf (lx : Launch) (g : zG) (X : va_W) (k : Nat) (hk : k < 20) : z_CtI lx yX6_firstOf (zT yX6_firstOf cX6_firstOf 1 (Option.some FieldType.int)) ({ frames := 0, cells := 0, slots := 0, locals := 0 } : Room) g [.int (nI k)] X (fun v Y => v = some (.int (z_st 2 k)) ∧ Y = X) 0 0 := by
  refine y_of (by decide) (Nat.le_of_ble_eq_true rfl) (lv0 := [(0, .int (nI k))]) rfl ?_
  intro C hlx hC hE hRm hN0
  have hC : zX0 C cX6_firstOf 1 RX6 (zT yX6_firstOf cX6_firstOf 1 (Option.some FieldType.int)) g := hC
  rcases (by omega : k = 0 ∨ k = 1 ∨ k = 2 ∨ k = 3 ∨ k = 4 ∨ k = 5 ∨ k = 6 ∨ k = 7 ∨ k = 8 ∨ k = 9 ∨ k = 10 ∨ k = 11 ∨ k = 12 ∨ k = 13 ∨ k = 14 ∨ k = 15 ∨ k = 16 ∨ k = 17 ∨ k = 18 ∨ k = 19) with rfl | rfl | rfl | rfl | rfl | rfl | rfl | rfl | rfl | rfl | rfl | rfl | rfl | rfl | rfl | rfl | rfl | rfl | rfl | rfl
  · skip
    refine y_iload_n (pc := 0) hC 0 dX6_firstOf_0 rfl rfl ?_
    refine y_tswD (pc := 1) (tgt := 82) hC dX6_firstOf_1 (by decide) (by decide) ?_
    refine y_iconst (pc := 82) (v := 0) hC dX6_firstOf_82 rfl ?_
    exact y_iret (pc := 83) hC hE dX6_firstOf_83 ⟨rfl, rfl⟩
  · skip
    refine y_iload_n (pc := 0) hC 0 dX6_firstOf_0 rfl rfl ?_
    refine y_tswD (pc := 1) (tgt := 82) hC dX6_firstOf_1 (by decide) (by decide) ?_
    refine y_iconst (pc := 82) (v := 0) hC dX6_firstOf_82 rfl ?_
    exact y_iret (pc := 83) hC hE dX6_firstOf_83 ⟨rfl, rfl⟩
  · skip
    refine y_iload_n (pc := 0) hC 0 dX6_firstOf_0 rfl rfl ?_
    refine y_tswD (pc := 1) (tgt := 82) hC dX6_firstOf_1 (by decide) (by decide) ?_
    refine y_iconst (pc := 82) (v := 0) hC dX6_firstOf_82 rfl ?_
    exact y_iret (pc := 83) hC hE dX6_firstOf_83 ⟨rfl, rfl⟩
  · skip
    refine y_iload_n (pc := 0) hC 0 dX6_firstOf_0 rfl rfl ?_
    refine y_tswK (pc := 1) (tgt := 72) hC dX6_firstOf_1 (by decide) (by decide) (by rfl) (by decide) ?_
    refine y_iconst (pc := 72) (v := 3) hC dX6_firstOf_72 rfl ?_
    exact y_iret (pc := 73) hC hE dX6_firstOf_73 ⟨rfl, rfl⟩
  · skip
    refine y_iload_n (pc := 0) hC 0 dX6_firstOf_0 rfl rfl ?_
    refine y_tswK (pc := 1) (tgt := 82) hC dX6_firstOf_1 (by decide) (by decide) (by rfl) (by decide) ?_
    refine y_iconst (pc := 82) (v := 0) hC dX6_firstOf_82 rfl ?_
    exact y_iret (pc := 83) hC hE dX6_firstOf_83 ⟨rfl, rfl⟩
  · skip
    refine y_iload_n (pc := 0) hC 0 dX6_firstOf_0 rfl rfl ?_
    refine y_tswK (pc := 1) (tgt := 82) hC dX6_firstOf_1 (by decide) (by decide) (by rfl) (by decide) ?_
    refine y_iconst (pc := 82) (v := 0) hC dX6_firstOf_82 rfl ?_
    exact y_iret (pc := 83) hC hE dX6_firstOf_83 ⟨rfl, rfl⟩
  · skip
    refine y_iload_n (pc := 0) hC 0 dX6_firstOf_0 rfl rfl ?_
    refine y_tswK (pc := 1) (tgt := 82) hC dX6_firstOf_1 (by decide) (by decide) (by rfl) (by decide) ?_
    refine y_iconst (pc := 82) (v := 0) hC dX6_firstOf_82 rfl ?_
    exact y_iret (pc := 83) hC hE dX6_firstOf_83 ⟨rfl, rfl⟩
  · skip
    refine y_iload_n (pc := 0) hC 0 dX6_firstOf_0 rfl rfl ?_
    refine y_tswK (pc := 1) (tgt := 74) hC dX6_firstOf_1 (by decide) (by decide) (by rfl) (by decide) ?_
    refine y_iconst (pc := 74) (v := (-1)) hC dX6_firstOf_74 rfl ?_
    exact y_iret (pc := 75) hC hE dX6_firstOf_75 ⟨rfl, rfl⟩
  · skip
    refine y_iload_n (pc := 0) hC 0 dX6_firstOf_0 rfl rfl ?_
    refine y_tswK (pc := 1) (tgt := 82) hC dX6_firstOf_1 (by decide) (by decide) (by rfl) (by decide) ?_
    refine y_iconst (pc := 82) (v := 0) hC dX6_firstOf_82 rfl ?_
    exact y_iret (pc := 83) hC hE dX6_firstOf_83 ⟨rfl, rfl⟩
  · skip
    refine y_iload_n (pc := 0) hC 0 dX6_firstOf_0 rfl rfl ?_
    refine y_tswK (pc := 1) (tgt := 76) hC dX6_firstOf_1 (by decide) (by decide) (by rfl) (by decide) ?_
    refine y_iconst (pc := 76) (v := 1) hC dX6_firstOf_76 rfl ?_
    exact y_iret (pc := 77) hC hE dX6_firstOf_77 ⟨rfl, rfl⟩
  · skip
    refine y_iload_n (pc := 0) hC 0 dX6_firstOf_0 rfl rfl ?_
    refine y_tswK (pc := 1) (tgt := 74) hC dX6_firstOf_1 (by decide) (by decide) (by rfl) (by decide) ?_
    refine y_iconst (pc := 74) (v := (-1)) hC dX6_firstOf_74 rfl ?_
    exact y_iret (pc := 75) hC hE dX6_firstOf_75 ⟨rfl, rfl⟩
  · skip
    refine y_iload_n (pc := 0) hC 0 dX6_firstOf_0 rfl rfl ?_
    refine y_tswK (pc := 1) (tgt := 74) hC dX6_firstOf_1 (by decide) (by decide) (by rfl) (by decide) ?_
    refine y_iconst (pc := 74) (v := (-1)) hC dX6_firstOf_74 rfl ?_
    exact y_iret (pc := 75) hC hE dX6_firstOf_75 ⟨rfl, rfl⟩
  · skip
    refine y_iload_n (pc := 0) hC 0 dX6_firstOf_0 rfl rfl ?_
    refine y_tswK (pc := 1) (tgt := 82) hC dX6_firstOf_1 (by decide) (by decide) (by rfl) (by decide) ?_
    refine y_iconst (pc := 82) (v := 0) hC dX6_firstOf_82 rfl ?_
    exact y_iret (pc := 83) hC hE dX6_firstOf_83 ⟨rfl, rfl⟩
  · skip
    refine y_iload_n (pc := 0) hC 0 dX6_firstOf_0 rfl rfl ?_
    refine y_tswK (pc := 1) (tgt := 82) hC dX6_firstOf_1 (by decide) (by decide) (by rfl) (by decide) ?_
    refine y_iconst (pc := 82) (v := 0) hC dX6_firstOf_82 rfl ?_
    exact y_iret (pc := 83) hC hE dX6_firstOf_83 ⟨rfl, rfl⟩
  · skip
    refine y_iload_n (pc := 0) hC 0 dX6_firstOf_0 rfl rfl ?_
    refine y_tswK (pc := 1) (tgt := 78) hC dX6_firstOf_1 (by decide) (by decide) (by rfl) (by decide) ?_
    refine y_sipush (pc := 78) (v := 10000) hC dX6_firstOf_78 rfl ?_
    exact y_iret (pc := 81) hC hE dX6_firstOf_81 ⟨rfl, rfl⟩
  · skip
    refine y_iload_n (pc := 0) hC 0 dX6_firstOf_0 rfl rfl ?_
    refine y_tswK (pc := 1) (tgt := 78) hC dX6_firstOf_1 (by decide) (by decide) (by rfl) (by decide) ?_
    refine y_sipush (pc := 78) (v := 10000) hC dX6_firstOf_78 rfl ?_
    exact y_iret (pc := 81) hC hE dX6_firstOf_81 ⟨rfl, rfl⟩
  · skip
    refine y_iload_n (pc := 0) hC 0 dX6_firstOf_0 rfl rfl ?_
    refine y_tswK (pc := 1) (tgt := 74) hC dX6_firstOf_1 (by decide) (by decide) (by rfl) (by decide) ?_
    refine y_iconst (pc := 74) (v := (-1)) hC dX6_firstOf_74 rfl ?_
    exact y_iret (pc := 75) hC hE dX6_firstOf_75 ⟨rfl, rfl⟩
  · skip
    refine y_iload_n (pc := 0) hC 0 dX6_firstOf_0 rfl rfl ?_
    refine y_tswD (pc := 1) (tgt := 82) hC dX6_firstOf_1 (by decide) (by decide) ?_
    refine y_iconst (pc := 82) (v := 0) hC dX6_firstOf_82 rfl ?_
    exact y_iret (pc := 83) hC hE dX6_firstOf_83 ⟨rfl, rfl⟩
  · skip
    refine y_iload_n (pc := 0) hC 0 dX6_firstOf_0 rfl rfl ?_
    refine y_tswD (pc := 1) (tgt := 82) hC dX6_firstOf_1 (by decide) (by decide) ?_
    refine y_iconst (pc := 82) (v := 0) hC dX6_firstOf_82 rfl ?_
    exact y_iret (pc := 83) hC hE dX6_firstOf_83 ⟨rfl, rfl⟩
  · skip
    refine y_iload_n (pc := 0) hC 0 dX6_firstOf_0 rfl rfl ?_
    refine y_tswD (pc := 1) (tgt := 82) hC dX6_firstOf_1 (by decide) (by decide) ?_
    refine y_iconst (pc := 82) (v := 0) hC dX6_firstOf_82 rfl ?_
    exact y_iret (pc := 83) hC hE dX6_firstOf_83 ⟨rfl, rfl⟩
/-- the first j properties of box 0 -/
def zmk (f : Nat → Int32) (j : Nat) : Nat → Int32 := fun i => if 43 ≤ i ∧ i < 43 + j then z_st 2 (i - 43) else f i
theorem zmk_0 (f : Nat → Int32) : zmk f 0 = f := by
  funext i
  exact if_neg (by omega)
theorem zmk_s (f : Nat → Int32) (j : Nat) : upd (zmk f j) (43 + j) (z_st 2 j) = zmk f (j + 1) := by
  funext i
  unfold upd zmk
  by_cases e : i = 43 + j
  · rw [if_pos e, if_pos (by omega), e, Nat.add_sub_cancel_left]
  · rw [if_neg e]
    by_cases h : 43 ≤ i ∧ i < 43 + j
    · rw [if_pos h, if_pos (by omega)]
    · rw [if_neg h, if_neg (by omega)]
set_option maxHeartbeats 4000000 in
set_option maxRecDepth 100000 in
theorem kI6_make (lx : Launch) (g : zG) (B : va_W) (a t : Nat) (fs : List Value) (h0 : fs[0]? = some (.ref t)) (f : Nat → Int32) (hf0 : f 0 = 0) (p : Int32) : z_CtI lx yX6_make (zT yX6_make cX6_make 4 (Option.some FieldType.int)) ({ frames := 1, cells := 0, slots := 0, locals := 20 } : Room) g [.ref a, .int p] ((t, .inl (g.2.2.1 0, 843, .inl f)) :: (a, .inr (6, fs)) :: B) (fun v Y => v = some (.int 0) ∧ Y = (t, .inl (g.2.2.1 0, 843, .inl (upd (zmk (upd f 3 p) 20) 0 (0 + 1)))) :: (a, .inr (6, fs)) :: B) 0 0 := by
  refine y_of (by decide) (Nat.le_of_ble_eq_true rfl) (lv0 := [(0, .ref a), (1, .int p)]) rfl ?_
  intro C hlx hC hE hRm hN0
  have hC : zX0 C cX6_make 4 RX6 (zT yX6_make cX6_make 4 (Option.some FieldType.int)) g := hC
  have hz0 : zmk (upd f 3 p) 20 0 = 0 := hf0
  refine y_aload_n (pc := 0) hC 0 dX6_make_0 rfl rfl z_isr_r ?_
  refine y_get (pc := 1) hC 6 0 1 (v := .ref t) rfl rfl inX6 (by decide) zm_4_73 h0 dX6_make_1 ?_
  refine y_iconst (pc := 4) (v := 0) hC dX6_make_4 rfl ?_
  refine y_iald (pc := 5) (v := 0) hC 0 0 rfl rfl (by decide) (by decide) hf0 dX6_make_5 ?_
  refine y_istore_n (pc := 6) (lv' := [(2, .int 0), (0, .ref a), (1, .int p)]) hC dX6_make_6 rfl (by decide) rfl ?_
  refine y_aload_n (pc := 7) hC 1 dX6_make_7 rfl rfl z_isr_r ?_
  refine y_get (pc := 8) hC 6 0 1 (v := .ref t) rfl rfl inX6 (by decide) zm_4_73 h0 dX6_make_8 ?_
  refine y_iconst (pc := 11) (v := 3) hC dX6_make_11 rfl ?_
  refine y_iload_n (pc := 12) hC 0 dX6_make_12 rfl rfl ?_
  refine y_iadd (pc := 13) hC dX6_make_13 ?_
  refine y_iload_n (pc := 14) hC 2 dX6_make_14 rfl rfl ?_
  refine y_iast (pc := 15) hC 0 3 rfl rfl (by decide) (by decide) dX6_make_15 ?_
  show zI C g 4 0 0 ((t, .inl (g.2.2.1 0, 843, .inl (upd f 3 p))) :: (a, .inr (6, fs)) :: B) 16 [(2, .int 0), (0, .ref a), (1, .int p)] []
  refine y_iconst (pc := 16) (v := 0) hC dX6_make_16 rfl ?_
  refine y_istore_n (pc := 17) (lv' := [(3, .int 0), (2, .int 0), (0, .ref a), (1, .int p)]) hC dX6_make_17 rfl (by decide) rfl ?_
  have L18 : ∀ (zf j : Nat), j ≤ 20 → 20 - j < zf → zI C g 4 0 0 ((t, .inl (g.2.2.1 0, 843, .inl (zmk (upd f 3 p) j))) :: (a, .inr (6, fs)) :: B) 18 [(3, .int (nI j)), (2, .int 0), (0, .ref a), (1, .int p)] [] := by
    intro zf
    induction zf with
    | zero =>
      intro j hj hn2
      exact absurd hn2 (Nat.not_lt_zero _)
    | succ zf ih =>
      intro j hj hn2
      refine y_iload_n (pc := 18) hC 0 dX6_make_18 rfl rfl ?_
      refine y_bipush (pc := 19) (v := 20) hC dX6_make_19 rfl ?_
      refine y_icmp_ge (pc := 21) (tgt := 48) hC dX6_make_21 (by decide) (fun h21 => ?_) (fun h21 => ?_)
      · skip
        have ej : j = 20 := Nat.le_antisymm hj (zc_ge (n := 20) h21 (by omega) (by decide))
        subst ej
        refine y_aload_n (pc := 48) hC 2 dX6_make_48 rfl rfl z_isr_r ?_
        refine y_get (pc := 49) hC 6 0 1 (v := .ref t) rfl rfl inX6 (by decide) zm_4_73 h0 dX6_make_49 ?_
        refine y_iconst (pc := 52) (v := 0) hC dX6_make_52 rfl ?_
        refine y_dup2 (pc := 53) hC dX6_make_53 rfl rfl ?_
        refine y_iald (pc := 54) (v := 0) hC 0 0 rfl rfl (by decide) (by decide) hz0 dX6_make_54 ?_
        refine y_iconst (pc := 55) (v := 1) hC dX6_make_55 rfl ?_
        refine y_iadd (pc := 56) hC dX6_make_56 ?_
        refine y_iast (pc := 57) hC 0 0 rfl rfl (by decide) (by decide) dX6_make_57 ?_
        show zI C g 4 0 0 ((t, .inl (g.2.2.1 0, 843, .inl (upd (zmk (upd f 3 p) 20) 0 (0 + 1)))) :: (a, .inr (6, fs)) :: B) 58 [(3, .int (nI 20)), (2, .int 0), (0, .ref a), (1, .int p)] []
        refine y_iload_n (pc := 58) hC 1 dX6_make_58 rfl rfl ?_
        exact y_iret (pc := 59) hC hE dX6_make_59 ⟨rfl, rfl⟩
      · skip
        have ej : j < 20 := zc_lt (n := 20) h21 (by omega) (by decide)
        refine y_aload_n (pc := 24) hC 2 dX6_make_24 rfl rfl z_isr_r ?_
        refine y_get (pc := 25) hC 6 0 1 (v := .ref t) rfl rfl inX6 (by decide) zm_4_73 h0 dX6_make_25 ?_
        refine y_bipush (pc := 28) (v := 43) hC dX6_make_28 rfl ?_
        refine y_bipush (pc := 30) (v := 20) hC dX6_make_30 rfl ?_
        refine y_iload_n (pc := 32) hC 1 dX6_make_32 rfl rfl ?_
        refine y_imul (pc := 33) hC dX6_make_33 ?_
        refine y_iadd (pc := 34) hC dX6_make_34 ?_
        refine y_iload_n (pc := 35) hC 0 dX6_make_35 rfl rfl ?_
        refine y_iadd (pc := 36) hC dX6_make_36 ?_
        refine y_iload_n (pc := 37) hC 0 dX6_make_37 rfl rfl ?_
        refine y_callS (pc := 38) (st := [.int ((43 + (20 * 0)) + (nI j)), .ref t]) hC [.int (nI j)] (kI6_firstOf C.2.1 g ((t, .inl (g.2.2.1 0, 843, .inl (zmk (upd f 3 p) j))) :: (a, .inr (6, fs)) :: B) j ej) zkX6_firstOf zm_4_70 ⟨rfl, rfl⟩ rfl rfl hRm ⟨Nat.le_of_ble_eq_true rfl, Nat.le_of_ble_eq_true rfl⟩ (Nat.le_of_ble_eq_true rfl) ⟨(Nat.le_of_ble_eq_true rfl), (Nat.le_of_ble_eq_true rfl)⟩ dX6_make_38 ?_
        intro v Y hR
        obtain ⟨hv, hY⟩ := hR
        subst hv
        subst hY
        show zI C g 4 0 0 ((t, .inl (g.2.2.1 0, 843, .inl (zmk (upd f 3 p) j))) :: (a, .inr (6, fs)) :: B) 41 [(3, .int (nI j)), (2, .int 0), (0, .ref a), (1, .int p)] [.int (z_st 2 j), .int ((43 + (20 * 0)) + (nI j)), .ref t]
        refine y_iast (pc := 41) hC 0 (43 + j) rfl (by rw [show (43 : Int32) + 20 * 0 = nI 43 from rfl, nI_add]) (by omega) (by decide) dX6_make_41 ?_
        show zI C g 4 0 0 ((t, .inl (g.2.2.1 0, 843, .inl (upd (zmk (upd f 3 p) j) (43 + j) (z_st 2 j)))) :: (a, .inr (6, fs)) :: B) 42 [(3, .int (nI j)), (2, .int 0), (0, .ref a), (1, .int p)] []
        refine y_iinc (pc := 42) (v := nI (j + 1)) (lv' := [(3, .int (nI (j + 1))), (2, .int 0), (0, .ref a), (1, .int p)]) hC 0 dX6_make_42 rfl (nI_1 j) (by decide) rfl ?_
        refine y_goto (pc := 45) (tgt := 18) hC dX6_make_45 (by decide) ?_
        rw [zmk_s]
        refine y_lvs (lv' := [(3, .int (nI (j + 1))), (2, .int 0), (0, .ref a), (1, .int p)]) [0, 1, 2, 3] rfl ?_
        exact ih (j + 1) (by omega) (by omega)
  refine y_lvs (lv' := [(3, .int (nI 0)), (2, .int 0), (0, .ref a), (1, .int p)]) [0, 1, 2, 3] rfl ?_
  have L := L18 21 0 (by decide) (by decide)
  rw [zmk_0] at L
  exact L
set_option maxHeartbeats 4000000 in
set_option maxRecDepth 100000 in
theorem kX6_init (lx : Launch) (g : zG) (B : va_W) (a : Nat) : z_CtI lx yX6_init (zT yX6_init cX6_init 1 (Option.none : Option FieldType)) ({ frames := 2, cells := 14, slots := 3092, locals := 43 } : Room) g [.ref a] ((a, .inr (6, [.null, .null, .null, .int 0, .null, .int 0, .null, .null, .null, .null, .null, .null, .null, .null, .null, .null])) :: B) (fun v Y => v = none ∧ ∃ q8 q17 q24 q32 q40 q48 q56 q64 q72 q80 q88 q96 q104 q112 : Nat, Y = (q8, .inl (g.2.2.1 0, 843, .inl (upd (zmk (upd (upd (upd (fun _ => 0) 1 800) 2 600) 3 (-1)) 20) 0 (0 + 1)))) :: (a, .inr (6, [.ref q8, .ref q17, .ref q24, .int 0, .ref q32, .int 0, .ref q40, .ref q48, .ref q56, .ref q64, .ref q72, .ref q80, .ref q88, .ref q96, .ref q104, .ref q112])) :: (q112, .inl (g.2.2.1 0, 41, .inl (fun _ => 0))) :: (q104, .inl (g.2.2.1 0, 40, .inl (fun _ => 0))) :: (q96, .inl (g.2.2.1 2, 40, .inr (.inl (fun _ => 0)))) :: (q88, .inl (g.2.2.1 1, 40, .inl (fun _ => 0))) :: (q80, .inl (g.2.2.1 0, 40, .inl (fun _ => 0))) :: (q72, .inl (g.2.2.1 0, 40, .inl (fun _ => 0))) :: (q64, .inl (g.2.2.1 0, 80, .inl (fun _ => 0))) :: (q56, .inl (g.2.2.1 0, 80, .inl (fun _ => 0))) :: (q48, .inl (g.2.2.1 0, 80, .inl (fun _ => 0))) :: (q40, .inl (g.2.2.1 1, 40, .inl (fun _ => 0))) :: (q32, .inl (g.2.2.1 0, 40, .inl (fun _ => 0))) :: (q24, .inl (g.2.2.1 1, 2, .inl (fun _ => 0))) :: (q17, .inl (g.2.2.1 0, 1686, .inl (fun _ => 0))) :: B) 14 3092 := by
  refine y_of (by decide) (Nat.le_of_ble_eq_true rfl) (lv0 := [(0, .ref a)]) rfl ?_
  intro C hlx hC hE hRm hN0
  have hC : zX0 C cX6_init 1 RX6 (zT yX6_init cX6_init 1 (Option.none : Option FieldType)) g := hC
  have hN : C.2.2.2.2.2.2.2.2.1.name = "<init>" := hN0
  refine y_aload_n (pc := 0) hC 0 dX6_init_0 rfl rfl z_isr_r ?_
  refine y_obj (pc := 1) hC zm_4_65 zm_1_22 zm_1_23 hRm (Nat.le_of_ble_eq_true rfl) (Nat.le_of_ble_eq_true rfl) dX6_init_1 ?_
  refine y_aload_n (pc := 4) hC 0 dX6_init_4 rfl rfl z_isr_r ?_
  refine y_sipush (pc := 5) (v := 843) hC dX6_init_5 rfl ?_
  refine y_newa (pc := 8) (atype := .int) (N' := 843) (z := .inl (fun _ => 0)) hC 0 zm_1_125 rfl rfl (fun _ => rfl) (by decide) (by decide) (Nat.le_of_ble_eq_true rfl) hRm (Nat.le_of_ble_eq_true rfl) (Nat.le_of_ble_eq_true rfl) dX6_init_8 (fun q8 => ?_)
  show zI C g 1 1 843 ((q8, .inl (g.2.2.1 0, 843, .inl (fun _ => 0))) :: (a, .inr (6, [.null, .null, .null, .int 0, .null, .int 0, .null, .null, .null, .null, .null, .null, .null, .null, .null, .null])) :: B) 10 [(0, .ref a)] [.ref q8, .ref a]
  refine y_putF (pc := 10) hC hN 6 0 1 rfl rfl inX6 tyX6_ok nmX6 (by decide) zm_4_73 rfl rfl rfl rfl (Nat.le_of_ble_eq_true rfl) dX6_init_10 ?_
  show zI C g 1 1 843 ((q8, .inl (g.2.2.1 0, 843, .inl (fun _ => 0))) :: (a, .inr (6, [.ref q8, .null, .null, .int 0, .null, .int 0, .null, .null, .null, .null, .null, .null, .null, .null, .null, .null])) :: B) 13 [(0, .ref a)] []
  refine y_aload_n (pc := 13) hC 0 dX6_init_13 rfl rfl z_isr_r ?_
  refine y_sipush (pc := 14) (v := 1686) hC dX6_init_14 rfl ?_
  refine y_newa (pc := 17) (atype := .int) (N' := 1686) (z := .inl (fun _ => 0)) hC 0 zm_1_125 rfl rfl (fun _ => rfl) (by decide) (by decide) (Nat.le_of_ble_eq_true rfl) hRm (Nat.le_of_ble_eq_true rfl) (Nat.le_of_ble_eq_true rfl) dX6_init_17 (fun q17 => ?_)
  show zI C g 1 2 2529 ((q17, .inl (g.2.2.1 0, 1686, .inl (fun _ => 0))) :: (q8, .inl (g.2.2.1 0, 843, .inl (fun _ => 0))) :: (a, .inr (6, [.ref q8, .null, .null, .int 0, .null, .int 0, .null, .null, .null, .null, .null, .null, .null, .null, .null, .null])) :: B) 19 [(0, .ref a)] [.ref q17, .ref a]
  refine y_putF (pc := 19) hC hN 6 1 2 rfl rfl inX6 tyX6_ok nmX6 (by decide) zm_4_74 rfl rfl rfl rfl (Nat.le_of_ble_eq_true rfl) dX6_init_19 ?_
  show zI C g 1 2 2529 ((q17, .inl (g.2.2.1 0, 1686, .inl (fun _ => 0))) :: (q8, .inl (g.2.2.1 0, 843, .inl (fun _ => 0))) :: (a, .inr (6, [.ref q8, .ref q17, .null, .int 0, .null, .int 0, .null, .null, .null, .null, .null, .null, .null, .null, .null, .null])) :: B) 22 [(0, .ref a)] []
  refine y_aload_n (pc := 22) hC 0 dX6_init_22 rfl rfl z_isr_r ?_
  refine y_iconst (pc := 23) (v := 2) hC dX6_init_23 rfl ?_
  refine y_newa (pc := 24) (atype := .boolean) (N' := 2) (z := .inl (fun _ => 0)) hC 1 zm_1_199 rfl rfl (fun _ => rfl) (by decide) (by decide) (Nat.le_of_ble_eq_true rfl) hRm (Nat.le_of_ble_eq_true rfl) (Nat.le_of_ble_eq_true rfl) dX6_init_24 (fun q24 => ?_)
  show zI C g 1 3 2531 ((q24, .inl (g.2.2.1 1, 2, .inl (fun _ => 0))) :: (q17, .inl (g.2.2.1 0, 1686, .inl (fun _ => 0))) :: (q8, .inl (g.2.2.1 0, 843, .inl (fun _ => 0))) :: (a, .inr (6, [.ref q8, .ref q17, .null, .int 0, .null, .int 0, .null, .null, .null, .null, .null, .null, .null, .null, .null, .null])) :: B) 26 [(0, .ref a)] [.ref q24, .ref a]
  refine y_putF (pc := 26) hC hN 6 2 3 rfl rfl inX6 tyX6_ok nmX6 (by decide) zm_4_75 rfl rfl rfl rfl (Nat.le_of_ble_eq_true rfl) dX6_init_26 ?_
  show zI C g 1 3 2531 ((q24, .inl (g.2.2.1 1, 2, .inl (fun _ => 0))) :: (q17, .inl (g.2.2.1 0, 1686, .inl (fun _ => 0))) :: (q8, .inl (g.2.2.1 0, 843, .inl (fun _ => 0))) :: (a, .inr (6, [.ref q8, .ref q17, .ref q24, .int 0, .null, .int 0, .null, .null, .null, .null, .null, .null, .null, .null, .null, .null])) :: B) 29 [(0, .ref a)] []
  refine y_aload_n (pc := 29) hC 0 dX6_init_29 rfl rfl z_isr_r ?_
  refine y_bipush (pc := 30) (v := 40) hC dX6_init_30 rfl ?_
  refine y_newa (pc := 32) (atype := .int) (N' := 40) (z := .inl (fun _ => 0)) hC 0 zm_1_125 rfl rfl (fun _ => rfl) (by decide) (by decide) (Nat.le_of_ble_eq_true rfl) hRm (Nat.le_of_ble_eq_true rfl) (Nat.le_of_ble_eq_true rfl) dX6_init_32 (fun q32 => ?_)
  show zI C g 1 4 2571 ((q32, .inl (g.2.2.1 0, 40, .inl (fun _ => 0))) :: (q24, .inl (g.2.2.1 1, 2, .inl (fun _ => 0))) :: (q17, .inl (g.2.2.1 0, 1686, .inl (fun _ => 0))) :: (q8, .inl (g.2.2.1 0, 843, .inl (fun _ => 0))) :: (a, .inr (6, [.ref q8, .ref q17, .ref q24, .int 0, .null, .int 0, .null, .null, .null, .null, .null, .null, .null, .null, .null, .null])) :: B) 34 [(0, .ref a)] [.ref q32, .ref a]
  refine y_putF (pc := 34) hC hN 6 4 4 rfl rfl inX6 tyX6_ok nmX6 (by decide) zm_4_77 rfl rfl rfl rfl (Nat.le_of_ble_eq_true rfl) dX6_init_34 ?_
  show zI C g 1 4 2571 ((q32, .inl (g.2.2.1 0, 40, .inl (fun _ => 0))) :: (q24, .inl (g.2.2.1 1, 2, .inl (fun _ => 0))) :: (q17, .inl (g.2.2.1 0, 1686, .inl (fun _ => 0))) :: (q8, .inl (g.2.2.1 0, 843, .inl (fun _ => 0))) :: (a, .inr (6, [.ref q8, .ref q17, .ref q24, .int 0, .ref q32, .int 0, .null, .null, .null, .null, .null, .null, .null, .null, .null, .null])) :: B) 37 [(0, .ref a)] []
  refine y_aload_n (pc := 37) hC 0 dX6_init_37 rfl rfl z_isr_r ?_
  refine y_bipush (pc := 38) (v := 40) hC dX6_init_38 rfl ?_
  refine y_newa (pc := 40) (atype := .boolean) (N' := 40) (z := .inl (fun _ => 0)) hC 1 zm_1_199 rfl rfl (fun _ => rfl) (by decide) (by decide) (Nat.le_of_ble_eq_true rfl) hRm (Nat.le_of_ble_eq_true rfl) (Nat.le_of_ble_eq_true rfl) dX6_init_40 (fun q40 => ?_)
  show zI C g 1 5 2611 ((q40, .inl (g.2.2.1 1, 40, .inl (fun _ => 0))) :: (q32, .inl (g.2.2.1 0, 40, .inl (fun _ => 0))) :: (q24, .inl (g.2.2.1 1, 2, .inl (fun _ => 0))) :: (q17, .inl (g.2.2.1 0, 1686, .inl (fun _ => 0))) :: (q8, .inl (g.2.2.1 0, 843, .inl (fun _ => 0))) :: (a, .inr (6, [.ref q8, .ref q17, .ref q24, .int 0, .ref q32, .int 0, .null, .null, .null, .null, .null, .null, .null, .null, .null, .null])) :: B) 42 [(0, .ref a)] [.ref q40, .ref a]
  refine y_putF (pc := 42) hC hN 6 6 5 rfl rfl inX6 tyX6_ok nmX6 (by decide) zm_4_79 rfl rfl rfl rfl (Nat.le_of_ble_eq_true rfl) dX6_init_42 ?_
  show zI C g 1 5 2611 ((q40, .inl (g.2.2.1 1, 40, .inl (fun _ => 0))) :: (q32, .inl (g.2.2.1 0, 40, .inl (fun _ => 0))) :: (q24, .inl (g.2.2.1 1, 2, .inl (fun _ => 0))) :: (q17, .inl (g.2.2.1 0, 1686, .inl (fun _ => 0))) :: (q8, .inl (g.2.2.1 0, 843, .inl (fun _ => 0))) :: (a, .inr (6, [.ref q8, .ref q17, .ref q24, .int 0, .ref q32, .int 0, .ref q40, .null, .null, .null, .null, .null, .null, .null, .null, .null])) :: B) 45 [(0, .ref a)] []
  refine y_aload_n (pc := 45) hC 0 dX6_init_45 rfl rfl z_isr_r ?_
  refine y_bipush (pc := 46) (v := 80) hC dX6_init_46 rfl ?_
  refine y_newa (pc := 48) (atype := .int) (N' := 80) (z := .inl (fun _ => 0)) hC 0 zm_1_125 rfl rfl (fun _ => rfl) (by decide) (by decide) (Nat.le_of_ble_eq_true rfl) hRm (Nat.le_of_ble_eq_true rfl) (Nat.le_of_ble_eq_true rfl) dX6_init_48 (fun q48 => ?_)
  show zI C g 1 6 2691 ((q48, .inl (g.2.2.1 0, 80, .inl (fun _ => 0))) :: (q40, .inl (g.2.2.1 1, 40, .inl (fun _ => 0))) :: (q32, .inl (g.2.2.1 0, 40, .inl (fun _ => 0))) :: (q24, .inl (g.2.2.1 1, 2, .inl (fun _ => 0))) :: (q17, .inl (g.2.2.1 0, 1686, .inl (fun _ => 0))) :: (q8, .inl (g.2.2.1 0, 843, .inl (fun _ => 0))) :: (a, .inr (6, [.ref q8, .ref q17, .ref q24, .int 0, .ref q32, .int 0, .ref q40, .null, .null, .null, .null, .null, .null, .null, .null, .null])) :: B) 50 [(0, .ref a)] [.ref q48, .ref a]
  refine y_putF (pc := 50) hC hN 6 7 6 rfl rfl inX6 tyX6_ok nmX6 (by decide) zm_4_80 rfl rfl rfl rfl (Nat.le_of_ble_eq_true rfl) dX6_init_50 ?_
  show zI C g 1 6 2691 ((q48, .inl (g.2.2.1 0, 80, .inl (fun _ => 0))) :: (q40, .inl (g.2.2.1 1, 40, .inl (fun _ => 0))) :: (q32, .inl (g.2.2.1 0, 40, .inl (fun _ => 0))) :: (q24, .inl (g.2.2.1 1, 2, .inl (fun _ => 0))) :: (q17, .inl (g.2.2.1 0, 1686, .inl (fun _ => 0))) :: (q8, .inl (g.2.2.1 0, 843, .inl (fun _ => 0))) :: (a, .inr (6, [.ref q8, .ref q17, .ref q24, .int 0, .ref q32, .int 0, .ref q40, .ref q48, .null, .null, .null, .null, .null, .null, .null, .null])) :: B) 53 [(0, .ref a)] []
  refine y_aload_n (pc := 53) hC 0 dX6_init_53 rfl rfl z_isr_r ?_
  refine y_bipush (pc := 54) (v := 80) hC dX6_init_54 rfl ?_
  refine y_newa (pc := 56) (atype := .int) (N' := 80) (z := .inl (fun _ => 0)) hC 0 zm_1_125 rfl rfl (fun _ => rfl) (by decide) (by decide) (Nat.le_of_ble_eq_true rfl) hRm (Nat.le_of_ble_eq_true rfl) (Nat.le_of_ble_eq_true rfl) dX6_init_56 (fun q56 => ?_)
  show zI C g 1 7 2771 ((q56, .inl (g.2.2.1 0, 80, .inl (fun _ => 0))) :: (q48, .inl (g.2.2.1 0, 80, .inl (fun _ => 0))) :: (q40, .inl (g.2.2.1 1, 40, .inl (fun _ => 0))) :: (q32, .inl (g.2.2.1 0, 40, .inl (fun _ => 0))) :: (q24, .inl (g.2.2.1 1, 2, .inl (fun _ => 0))) :: (q17, .inl (g.2.2.1 0, 1686, .inl (fun _ => 0))) :: (q8, .inl (g.2.2.1 0, 843, .inl (fun _ => 0))) :: (a, .inr (6, [.ref q8, .ref q17, .ref q24, .int 0, .ref q32, .int 0, .ref q40, .ref q48, .null, .null, .null, .null, .null, .null, .null, .null])) :: B) 58 [(0, .ref a)] [.ref q56, .ref a]
  refine y_putF (pc := 58) hC hN 6 8 7 rfl rfl inX6 tyX6_ok nmX6 (by decide) zm_4_81 rfl rfl rfl rfl (Nat.le_of_ble_eq_true rfl) dX6_init_58 ?_
  show zI C g 1 7 2771 ((q56, .inl (g.2.2.1 0, 80, .inl (fun _ => 0))) :: (q48, .inl (g.2.2.1 0, 80, .inl (fun _ => 0))) :: (q40, .inl (g.2.2.1 1, 40, .inl (fun _ => 0))) :: (q32, .inl (g.2.2.1 0, 40, .inl (fun _ => 0))) :: (q24, .inl (g.2.2.1 1, 2, .inl (fun _ => 0))) :: (q17, .inl (g.2.2.1 0, 1686, .inl (fun _ => 0))) :: (q8, .inl (g.2.2.1 0, 843, .inl (fun _ => 0))) :: (a, .inr (6, [.ref q8, .ref q17, .ref q24, .int 0, .ref q32, .int 0, .ref q40, .ref q48, .ref q56, .null, .null, .null, .null, .null, .null, .null])) :: B) 61 [(0, .ref a)] []
  refine y_aload_n (pc := 61) hC 0 dX6_init_61 rfl rfl z_isr_r ?_
  refine y_bipush (pc := 62) (v := 80) hC dX6_init_62 rfl ?_
  refine y_newa (pc := 64) (atype := .int) (N' := 80) (z := .inl (fun _ => 0)) hC 0 zm_1_125 rfl rfl (fun _ => rfl) (by decide) (by decide) (Nat.le_of_ble_eq_true rfl) hRm (Nat.le_of_ble_eq_true rfl) (Nat.le_of_ble_eq_true rfl) dX6_init_64 (fun q64 => ?_)
  show zI C g 1 8 2851 ((q64, .inl (g.2.2.1 0, 80, .inl (fun _ => 0))) :: (q56, .inl (g.2.2.1 0, 80, .inl (fun _ => 0))) :: (q48, .inl (g.2.2.1 0, 80, .inl (fun _ => 0))) :: (q40, .inl (g.2.2.1 1, 40, .inl (fun _ => 0))) :: (q32, .inl (g.2.2.1 0, 40, .inl (fun _ => 0))) :: (q24, .inl (g.2.2.1 1, 2, .inl (fun _ => 0))) :: (q17, .inl (g.2.2.1 0, 1686, .inl (fun _ => 0))) :: (q8, .inl (g.2.2.1 0, 843, .inl (fun _ => 0))) :: (a, .inr (6, [.ref q8, .ref q17, .ref q24, .int 0, .ref q32, .int 0, .ref q40, .ref q48, .ref q56, .null, .null, .null, .null, .null, .null, .null])) :: B) 66 [(0, .ref a)] [.ref q64, .ref a]
  refine y_putF (pc := 66) hC hN 6 9 8 rfl rfl inX6 tyX6_ok nmX6 (by decide) zm_4_82 rfl rfl rfl rfl (Nat.le_of_ble_eq_true rfl) dX6_init_66 ?_
  show zI C g 1 8 2851 ((q64, .inl (g.2.2.1 0, 80, .inl (fun _ => 0))) :: (q56, .inl (g.2.2.1 0, 80, .inl (fun _ => 0))) :: (q48, .inl (g.2.2.1 0, 80, .inl (fun _ => 0))) :: (q40, .inl (g.2.2.1 1, 40, .inl (fun _ => 0))) :: (q32, .inl (g.2.2.1 0, 40, .inl (fun _ => 0))) :: (q24, .inl (g.2.2.1 1, 2, .inl (fun _ => 0))) :: (q17, .inl (g.2.2.1 0, 1686, .inl (fun _ => 0))) :: (q8, .inl (g.2.2.1 0, 843, .inl (fun _ => 0))) :: (a, .inr (6, [.ref q8, .ref q17, .ref q24, .int 0, .ref q32, .int 0, .ref q40, .ref q48, .ref q56, .ref q64, .null, .null, .null, .null, .null, .null])) :: B) 69 [(0, .ref a)] []
  refine y_aload_n (pc := 69) hC 0 dX6_init_69 rfl rfl z_isr_r ?_
  refine y_bipush (pc := 70) (v := 40) hC dX6_init_70 rfl ?_
  refine y_newa (pc := 72) (atype := .int) (N' := 40) (z := .inl (fun _ => 0)) hC 0 zm_1_125 rfl rfl (fun _ => rfl) (by decide) (by decide) (Nat.le_of_ble_eq_true rfl) hRm (Nat.le_of_ble_eq_true rfl) (Nat.le_of_ble_eq_true rfl) dX6_init_72 (fun q72 => ?_)
  show zI C g 1 9 2891 ((q72, .inl (g.2.2.1 0, 40, .inl (fun _ => 0))) :: (q64, .inl (g.2.2.1 0, 80, .inl (fun _ => 0))) :: (q56, .inl (g.2.2.1 0, 80, .inl (fun _ => 0))) :: (q48, .inl (g.2.2.1 0, 80, .inl (fun _ => 0))) :: (q40, .inl (g.2.2.1 1, 40, .inl (fun _ => 0))) :: (q32, .inl (g.2.2.1 0, 40, .inl (fun _ => 0))) :: (q24, .inl (g.2.2.1 1, 2, .inl (fun _ => 0))) :: (q17, .inl (g.2.2.1 0, 1686, .inl (fun _ => 0))) :: (q8, .inl (g.2.2.1 0, 843, .inl (fun _ => 0))) :: (a, .inr (6, [.ref q8, .ref q17, .ref q24, .int 0, .ref q32, .int 0, .ref q40, .ref q48, .ref q56, .ref q64, .null, .null, .null, .null, .null, .null])) :: B) 74 [(0, .ref a)] [.ref q72, .ref a]
  refine y_putF (pc := 74) hC hN 6 10 9 rfl rfl inX6 tyX6_ok nmX6 (by decide) zm_4_83 rfl rfl rfl rfl (Nat.le_of_ble_eq_true rfl) dX6_init_74 ?_
  show zI C g 1 9 2891 ((q72, .inl (g.2.2.1 0, 40, .inl (fun _ => 0))) :: (q64, .inl (g.2.2.1 0, 80, .inl (fun _ => 0))) :: (q56, .inl (g.2.2.1 0, 80, .inl (fun _ => 0))) :: (q48, .inl (g.2.2.1 0, 80, .inl (fun _ => 0))) :: (q40, .inl (g.2.2.1 1, 40, .inl (fun _ => 0))) :: (q32, .inl (g.2.2.1 0, 40, .inl (fun _ => 0))) :: (q24, .inl (g.2.2.1 1, 2, .inl (fun _ => 0))) :: (q17, .inl (g.2.2.1 0, 1686, .inl (fun _ => 0))) :: (q8, .inl (g.2.2.1 0, 843, .inl (fun _ => 0))) :: (a, .inr (6, [.ref q8, .ref q17, .ref q24, .int 0, .ref q32, .int 0, .ref q40, .ref q48, .ref q56, .ref q64, .ref q72, .null, .null, .null, .null, .null])) :: B) 77 [(0, .ref a)] []
  refine y_aload_n (pc := 77) hC 0 dX6_init_77 rfl rfl z_isr_r ?_
  refine y_bipush (pc := 78) (v := 40) hC dX6_init_78 rfl ?_
  refine y_newa (pc := 80) (atype := .int) (N' := 40) (z := .inl (fun _ => 0)) hC 0 zm_1_125 rfl rfl (fun _ => rfl) (by decide) (by decide) (Nat.le_of_ble_eq_true rfl) hRm (Nat.le_of_ble_eq_true rfl) (Nat.le_of_ble_eq_true rfl) dX6_init_80 (fun q80 => ?_)
  show zI C g 1 10 2931 ((q80, .inl (g.2.2.1 0, 40, .inl (fun _ => 0))) :: (q72, .inl (g.2.2.1 0, 40, .inl (fun _ => 0))) :: (q64, .inl (g.2.2.1 0, 80, .inl (fun _ => 0))) :: (q56, .inl (g.2.2.1 0, 80, .inl (fun _ => 0))) :: (q48, .inl (g.2.2.1 0, 80, .inl (fun _ => 0))) :: (q40, .inl (g.2.2.1 1, 40, .inl (fun _ => 0))) :: (q32, .inl (g.2.2.1 0, 40, .inl (fun _ => 0))) :: (q24, .inl (g.2.2.1 1, 2, .inl (fun _ => 0))) :: (q17, .inl (g.2.2.1 0, 1686, .inl (fun _ => 0))) :: (q8, .inl (g.2.2.1 0, 843, .inl (fun _ => 0))) :: (a, .inr (6, [.ref q8, .ref q17, .ref q24, .int 0, .ref q32, .int 0, .ref q40, .ref q48, .ref q56, .ref q64, .ref q72, .null, .null, .null, .null, .null])) :: B) 82 [(0, .ref a)] [.ref q80, .ref a]
  refine y_putF (pc := 82) hC hN 6 11 10 rfl rfl inX6 tyX6_ok nmX6 (by decide) zm_4_84 rfl rfl rfl rfl (Nat.le_of_ble_eq_true rfl) dX6_init_82 ?_
  show zI C g 1 10 2931 ((q80, .inl (g.2.2.1 0, 40, .inl (fun _ => 0))) :: (q72, .inl (g.2.2.1 0, 40, .inl (fun _ => 0))) :: (q64, .inl (g.2.2.1 0, 80, .inl (fun _ => 0))) :: (q56, .inl (g.2.2.1 0, 80, .inl (fun _ => 0))) :: (q48, .inl (g.2.2.1 0, 80, .inl (fun _ => 0))) :: (q40, .inl (g.2.2.1 1, 40, .inl (fun _ => 0))) :: (q32, .inl (g.2.2.1 0, 40, .inl (fun _ => 0))) :: (q24, .inl (g.2.2.1 1, 2, .inl (fun _ => 0))) :: (q17, .inl (g.2.2.1 0, 1686, .inl (fun _ => 0))) :: (q8, .inl (g.2.2.1 0, 843, .inl (fun _ => 0))) :: (a, .inr (6, [.ref q8, .ref q17, .ref q24, .int 0, .ref q32, .int 0, .ref q40, .ref q48, .ref q56, .ref q64, .ref q72, .ref q80, .null, .null, .null, .null])) :: B) 85 [(0, .ref a)] []
  refine y_aload_n (pc := 85) hC 0 dX6_init_85 rfl rfl z_isr_r ?_
  refine y_bipush (pc := 86) (v := 40) hC dX6_init_86 rfl ?_
  refine y_newa (pc := 88) (atype := .boolean) (N' := 40) (z := .inl (fun _ => 0)) hC 1 zm_1_199 rfl rfl (fun _ => rfl) (by decide) (by decide) (Nat.le_of_ble_eq_true rfl) hRm (Nat.le_of_ble_eq_true rfl) (Nat.le_of_ble_eq_true rfl) dX6_init_88 (fun q88 => ?_)
  show zI C g 1 11 2971 ((q88, .inl (g.2.2.1 1, 40, .inl (fun _ => 0))) :: (q80, .inl (g.2.2.1 0, 40, .inl (fun _ => 0))) :: (q72, .inl (g.2.2.1 0, 40, .inl (fun _ => 0))) :: (q64, .inl (g.2.2.1 0, 80, .inl (fun _ => 0))) :: (q56, .inl (g.2.2.1 0, 80, .inl (fun _ => 0))) :: (q48, .inl (g.2.2.1 0, 80, .inl (fun _ => 0))) :: (q40, .inl (g.2.2.1 1, 40, .inl (fun _ => 0))) :: (q32, .inl (g.2.2.1 0, 40, .inl (fun _ => 0))) :: (q24, .inl (g.2.2.1 1, 2, .inl (fun _ => 0))) :: (q17, .inl (g.2.2.1 0, 1686, .inl (fun _ => 0))) :: (q8, .inl (g.2.2.1 0, 843, .inl (fun _ => 0))) :: (a, .inr (6, [.ref q8, .ref q17, .ref q24, .int 0, .ref q32, .int 0, .ref q40, .ref q48, .ref q56, .ref q64, .ref q72, .ref q80, .null, .null, .null, .null])) :: B) 90 [(0, .ref a)] [.ref q88, .ref a]
  refine y_putF (pc := 90) hC hN 6 12 11 rfl rfl inX6 tyX6_ok nmX6 (by decide) zm_4_85 rfl rfl rfl rfl (Nat.le_of_ble_eq_true rfl) dX6_init_90 ?_
  show zI C g 1 11 2971 ((q88, .inl (g.2.2.1 1, 40, .inl (fun _ => 0))) :: (q80, .inl (g.2.2.1 0, 40, .inl (fun _ => 0))) :: (q72, .inl (g.2.2.1 0, 40, .inl (fun _ => 0))) :: (q64, .inl (g.2.2.1 0, 80, .inl (fun _ => 0))) :: (q56, .inl (g.2.2.1 0, 80, .inl (fun _ => 0))) :: (q48, .inl (g.2.2.1 0, 80, .inl (fun _ => 0))) :: (q40, .inl (g.2.2.1 1, 40, .inl (fun _ => 0))) :: (q32, .inl (g.2.2.1 0, 40, .inl (fun _ => 0))) :: (q24, .inl (g.2.2.1 1, 2, .inl (fun _ => 0))) :: (q17, .inl (g.2.2.1 0, 1686, .inl (fun _ => 0))) :: (q8, .inl (g.2.2.1 0, 843, .inl (fun _ => 0))) :: (a, .inr (6, [.ref q8, .ref q17, .ref q24, .int 0, .ref q32, .int 0, .ref q40, .ref q48, .ref q56, .ref q64, .ref q72, .ref q80, .ref q88, .null, .null, .null])) :: B) 93 [(0, .ref a)] []
  refine y_aload_n (pc := 93) hC 0 dX6_init_93 rfl rfl z_isr_r ?_
  refine y_bipush (pc := 94) (v := 40) hC dX6_init_94 rfl ?_
  refine y_newa (pc := 96) (atype := .long) (N' := 40) (z := .inr (.inl (fun _ => 0))) hC 2 zm_4_122 rfl rfl (fun _ => rfl) (by decide) (by decide) (Nat.le_of_ble_eq_true rfl) hRm (Nat.le_of_ble_eq_true rfl) (Nat.le_of_ble_eq_true rfl) dX6_init_96 (fun q96 => ?_)
  show zI C g 1 12 3011 ((q96, .inl (g.2.2.1 2, 40, .inr (.inl (fun _ => 0)))) :: (q88, .inl (g.2.2.1 1, 40, .inl (fun _ => 0))) :: (q80, .inl (g.2.2.1 0, 40, .inl (fun _ => 0))) :: (q72, .inl (g.2.2.1 0, 40, .inl (fun _ => 0))) :: (q64, .inl (g.2.2.1 0, 80, .inl (fun _ => 0))) :: (q56, .inl (g.2.2.1 0, 80, .inl (fun _ => 0))) :: (q48, .inl (g.2.2.1 0, 80, .inl (fun _ => 0))) :: (q40, .inl (g.2.2.1 1, 40, .inl (fun _ => 0))) :: (q32, .inl (g.2.2.1 0, 40, .inl (fun _ => 0))) :: (q24, .inl (g.2.2.1 1, 2, .inl (fun _ => 0))) :: (q17, .inl (g.2.2.1 0, 1686, .inl (fun _ => 0))) :: (q8, .inl (g.2.2.1 0, 843, .inl (fun _ => 0))) :: (a, .inr (6, [.ref q8, .ref q17, .ref q24, .int 0, .ref q32, .int 0, .ref q40, .ref q48, .ref q56, .ref q64, .ref q72, .ref q80, .ref q88, .null, .null, .null])) :: B) 98 [(0, .ref a)] [.ref q96, .ref a]
  refine y_putF (pc := 98) hC hN 6 13 12 rfl rfl inX6 tyX6_ok nmX6 (by decide) zm_4_86 rfl rfl rfl rfl (Nat.le_of_ble_eq_true rfl) dX6_init_98 ?_
  show zI C g 1 12 3011 ((q96, .inl (g.2.2.1 2, 40, .inr (.inl (fun _ => 0)))) :: (q88, .inl (g.2.2.1 1, 40, .inl (fun _ => 0))) :: (q80, .inl (g.2.2.1 0, 40, .inl (fun _ => 0))) :: (q72, .inl (g.2.2.1 0, 40, .inl (fun _ => 0))) :: (q64, .inl (g.2.2.1 0, 80, .inl (fun _ => 0))) :: (q56, .inl (g.2.2.1 0, 80, .inl (fun _ => 0))) :: (q48, .inl (g.2.2.1 0, 80, .inl (fun _ => 0))) :: (q40, .inl (g.2.2.1 1, 40, .inl (fun _ => 0))) :: (q32, .inl (g.2.2.1 0, 40, .inl (fun _ => 0))) :: (q24, .inl (g.2.2.1 1, 2, .inl (fun _ => 0))) :: (q17, .inl (g.2.2.1 0, 1686, .inl (fun _ => 0))) :: (q8, .inl (g.2.2.1 0, 843, .inl (fun _ => 0))) :: (a, .inr (6, [.ref q8, .ref q17, .ref q24, .int 0, .ref q32, .int 0, .ref q40, .ref q48, .ref q56, .ref q64, .ref q72, .ref q80, .ref q88, .ref q96, .null, .null])) :: B) 101 [(0, .ref a)] []
  refine y_aload_n (pc := 101) hC 0 dX6_init_101 rfl rfl z_isr_r ?_
  refine y_bipush (pc := 102) (v := 40) hC dX6_init_102 rfl ?_
  refine y_newa (pc := 104) (atype := .int) (N' := 40) (z := .inl (fun _ => 0)) hC 0 zm_1_125 rfl rfl (fun _ => rfl) (by decide) (by decide) (Nat.le_of_ble_eq_true rfl) hRm (Nat.le_of_ble_eq_true rfl) (Nat.le_of_ble_eq_true rfl) dX6_init_104 (fun q104 => ?_)
  show zI C g 1 13 3051 ((q104, .inl (g.2.2.1 0, 40, .inl (fun _ => 0))) :: (q96, .inl (g.2.2.1 2, 40, .inr (.inl (fun _ => 0)))) :: (q88, .inl (g.2.2.1 1, 40, .inl (fun _ => 0))) :: (q80, .inl (g.2.2.1 0, 40, .inl (fun _ => 0))) :: (q72, .inl (g.2.2.1 0, 40, .inl (fun _ => 0))) :: (q64, .inl (g.2.2.1 0, 80, .inl (fun _ => 0))) :: (q56, .inl (g.2.2.1 0, 80, .inl (fun _ => 0))) :: (q48, .inl (g.2.2.1 0, 80, .inl (fun _ => 0))) :: (q40, .inl (g.2.2.1 1, 40, .inl (fun _ => 0))) :: (q32, .inl (g.2.2.1 0, 40, .inl (fun _ => 0))) :: (q24, .inl (g.2.2.1 1, 2, .inl (fun _ => 0))) :: (q17, .inl (g.2.2.1 0, 1686, .inl (fun _ => 0))) :: (q8, .inl (g.2.2.1 0, 843, .inl (fun _ => 0))) :: (a, .inr (6, [.ref q8, .ref q17, .ref q24, .int 0, .ref q32, .int 0, .ref q40, .ref q48, .ref q56, .ref q64, .ref q72, .ref q80, .ref q88, .ref q96, .null, .null])) :: B) 106 [(0, .ref a)] [.ref q104, .ref a]
  refine y_putF (pc := 106) hC hN 6 14 13 rfl rfl inX6 tyX6_ok nmX6 (by decide) zm_4_87 rfl rfl rfl rfl (Nat.le_of_ble_eq_true rfl) dX6_init_106 ?_
  show zI C g 1 13 3051 ((q104, .inl (g.2.2.1 0, 40, .inl (fun _ => 0))) :: (q96, .inl (g.2.2.1 2, 40, .inr (.inl (fun _ => 0)))) :: (q88, .inl (g.2.2.1 1, 40, .inl (fun _ => 0))) :: (q80, .inl (g.2.2.1 0, 40, .inl (fun _ => 0))) :: (q72, .inl (g.2.2.1 0, 40, .inl (fun _ => 0))) :: (q64, .inl (g.2.2.1 0, 80, .inl (fun _ => 0))) :: (q56, .inl (g.2.2.1 0, 80, .inl (fun _ => 0))) :: (q48, .inl (g.2.2.1 0, 80, .inl (fun _ => 0))) :: (q40, .inl (g.2.2.1 1, 40, .inl (fun _ => 0))) :: (q32, .inl (g.2.2.1 0, 40, .inl (fun _ => 0))) :: (q24, .inl (g.2.2.1 1, 2, .inl (fun _ => 0))) :: (q17, .inl (g.2.2.1 0, 1686, .inl (fun _ => 0))) :: (q8, .inl (g.2.2.1 0, 843, .inl (fun _ => 0))) :: (a, .inr (6, [.ref q8, .ref q17, .ref q24, .int 0, .ref q32, .int 0, .ref q40, .ref q48, .ref q56, .ref q64, .ref q72, .ref q80, .ref q88, .ref q96, .ref q104, .null])) :: B) 109 [(0, .ref a)] []
  refine y_aload_n (pc := 109) hC 0 dX6_init_109 rfl rfl z_isr_r ?_
  refine y_bipush (pc := 110) (v := 41) hC dX6_init_110 rfl ?_
  refine y_newa (pc := 112) (atype := .int) (N' := 41) (z := .inl (fun _ => 0)) hC 0 zm_1_125 rfl rfl (fun _ => rfl) (by decide) (by decide) (Nat.le_of_ble_eq_true rfl) hRm (Nat.le_of_ble_eq_true rfl) (Nat.le_of_ble_eq_true rfl) dX6_init_112 (fun q112 => ?_)
  show zI C g 1 14 3092 ((q112, .inl (g.2.2.1 0, 41, .inl (fun _ => 0))) :: (q104, .inl (g.2.2.1 0, 40, .inl (fun _ => 0))) :: (q96, .inl (g.2.2.1 2, 40, .inr (.inl (fun _ => 0)))) :: (q88, .inl (g.2.2.1 1, 40, .inl (fun _ => 0))) :: (q80, .inl (g.2.2.1 0, 40, .inl (fun _ => 0))) :: (q72, .inl (g.2.2.1 0, 40, .inl (fun _ => 0))) :: (q64, .inl (g.2.2.1 0, 80, .inl (fun _ => 0))) :: (q56, .inl (g.2.2.1 0, 80, .inl (fun _ => 0))) :: (q48, .inl (g.2.2.1 0, 80, .inl (fun _ => 0))) :: (q40, .inl (g.2.2.1 1, 40, .inl (fun _ => 0))) :: (q32, .inl (g.2.2.1 0, 40, .inl (fun _ => 0))) :: (q24, .inl (g.2.2.1 1, 2, .inl (fun _ => 0))) :: (q17, .inl (g.2.2.1 0, 1686, .inl (fun _ => 0))) :: (q8, .inl (g.2.2.1 0, 843, .inl (fun _ => 0))) :: (a, .inr (6, [.ref q8, .ref q17, .ref q24, .int 0, .ref q32, .int 0, .ref q40, .ref q48, .ref q56, .ref q64, .ref q72, .ref q80, .ref q88, .ref q96, .ref q104, .null])) :: B) 114 [(0, .ref a)] [.ref q112, .ref a]
  refine y_putF (pc := 114) hC hN 6 15 14 rfl rfl inX6 tyX6_ok nmX6 (by decide) zm_4_88 rfl rfl rfl rfl (Nat.le_of_ble_eq_true rfl) dX6_init_114 ?_
  show zI C g 1 14 3092 ((q112, .inl (g.2.2.1 0, 41, .inl (fun _ => 0))) :: (q104, .inl (g.2.2.1 0, 40, .inl (fun _ => 0))) :: (q96, .inl (g.2.2.1 2, 40, .inr (.inl (fun _ => 0)))) :: (q88, .inl (g.2.2.1 1, 40, .inl (fun _ => 0))) :: (q80, .inl (g.2.2.1 0, 40, .inl (fun _ => 0))) :: (q72, .inl (g.2.2.1 0, 40, .inl (fun _ => 0))) :: (q64, .inl (g.2.2.1 0, 80, .inl (fun _ => 0))) :: (q56, .inl (g.2.2.1 0, 80, .inl (fun _ => 0))) :: (q48, .inl (g.2.2.1 0, 80, .inl (fun _ => 0))) :: (q40, .inl (g.2.2.1 1, 40, .inl (fun _ => 0))) :: (q32, .inl (g.2.2.1 0, 40, .inl (fun _ => 0))) :: (q24, .inl (g.2.2.1 1, 2, .inl (fun _ => 0))) :: (q17, .inl (g.2.2.1 0, 1686, .inl (fun _ => 0))) :: (q8, .inl (g.2.2.1 0, 843, .inl (fun _ => 0))) :: (a, .inr (6, [.ref q8, .ref q17, .ref q24, .int 0, .ref q32, .int 0, .ref q40, .ref q48, .ref q56, .ref q64, .ref q72, .ref q80, .ref q88, .ref q96, .ref q104, .ref q112])) :: B) 117 [(0, .ref a)] []
  refine y_aload_n (pc := 117) hC 0 dX6_init_117 rfl rfl z_isr_r ?_
  refine y_get (pc := 118) hC 6 0 14 (v := .ref q8) rfl rfl inX6 (by decide) zm_4_73 rfl dX6_init_118 ?_
  refine y_iconst (pc := 121) (v := 1) hC dX6_init_121 rfl ?_
  refine y_sipush (pc := 122) (v := 800) hC dX6_init_122 rfl ?_
  refine y_iast (pc := 125) hC 13 1 rfl rfl (by decide) (by decide) dX6_init_125 ?_
  show zI C g 1 14 3092 ((q112, .inl (g.2.2.1 0, 41, .inl (fun _ => 0))) :: (q104, .inl (g.2.2.1 0, 40, .inl (fun _ => 0))) :: (q96, .inl (g.2.2.1 2, 40, .inr (.inl (fun _ => 0)))) :: (q88, .inl (g.2.2.1 1, 40, .inl (fun _ => 0))) :: (q80, .inl (g.2.2.1 0, 40, .inl (fun _ => 0))) :: (q72, .inl (g.2.2.1 0, 40, .inl (fun _ => 0))) :: (q64, .inl (g.2.2.1 0, 80, .inl (fun _ => 0))) :: (q56, .inl (g.2.2.1 0, 80, .inl (fun _ => 0))) :: (q48, .inl (g.2.2.1 0, 80, .inl (fun _ => 0))) :: (q40, .inl (g.2.2.1 1, 40, .inl (fun _ => 0))) :: (q32, .inl (g.2.2.1 0, 40, .inl (fun _ => 0))) :: (q24, .inl (g.2.2.1 1, 2, .inl (fun _ => 0))) :: (q17, .inl (g.2.2.1 0, 1686, .inl (fun _ => 0))) :: (q8, .inl (g.2.2.1 0, 843, .inl (upd (fun _ => 0) 1 800))) :: (a, .inr (6, [.ref q8, .ref q17, .ref q24, .int 0, .ref q32, .int 0, .ref q40, .ref q48, .ref q56, .ref q64, .ref q72, .ref q80, .ref q88, .ref q96, .ref q104, .ref q112])) :: B) 126 [(0, .ref a)] []
  refine y_aload_n (pc := 126) hC 0 dX6_init_126 rfl rfl z_isr_r ?_
  refine y_get (pc := 127) hC 6 0 14 (v := .ref q8) rfl rfl inX6 (by decide) zm_4_73 rfl dX6_init_127 ?_
  refine y_iconst (pc := 130) (v := 2) hC dX6_init_130 rfl ?_
  refine y_sipush (pc := 131) (v := 600) hC dX6_init_131 rfl ?_
  refine y_iast (pc := 134) hC 13 2 rfl rfl (by decide) (by decide) dX6_init_134 ?_
  show zI C g 1 14 3092 ((q112, .inl (g.2.2.1 0, 41, .inl (fun _ => 0))) :: (q104, .inl (g.2.2.1 0, 40, .inl (fun _ => 0))) :: (q96, .inl (g.2.2.1 2, 40, .inr (.inl (fun _ => 0)))) :: (q88, .inl (g.2.2.1 1, 40, .inl (fun _ => 0))) :: (q80, .inl (g.2.2.1 0, 40, .inl (fun _ => 0))) :: (q72, .inl (g.2.2.1 0, 40, .inl (fun _ => 0))) :: (q64, .inl (g.2.2.1 0, 80, .inl (fun _ => 0))) :: (q56, .inl (g.2.2.1 0, 80, .inl (fun _ => 0))) :: (q48, .inl (g.2.2.1 0, 80, .inl (fun _ => 0))) :: (q40, .inl (g.2.2.1 1, 40, .inl (fun _ => 0))) :: (q32, .inl (g.2.2.1 0, 40, .inl (fun _ => 0))) :: (q24, .inl (g.2.2.1 1, 2, .inl (fun _ => 0))) :: (q17, .inl (g.2.2.1 0, 1686, .inl (fun _ => 0))) :: (q8, .inl (g.2.2.1 0, 843, .inl (upd (upd (fun _ => 0) 1 800) 2 600))) :: (a, .inr (6, [.ref q8, .ref q17, .ref q24, .int 0, .ref q32, .int 0, .ref q40, .ref q48, .ref q56, .ref q64, .ref q72, .ref q80, .ref q88, .ref q96, .ref q104, .ref q112])) :: B) 135 [(0, .ref a)] []
  refine y_aload_n (pc := 135) hC 0 dX6_init_135 rfl rfl z_isr_r ?_
  refine y_iconst (pc := 136) (v := (-1)) hC dX6_init_136 rfl ?_
  refine y_perm (zp13_2 _ _ _ _ _ _ _ _ _ _ _ _ _ _ _ _) ?_
  show zI C g 1 14 3092 ((q8, .inl (g.2.2.1 0, 843, .inl (upd (upd (fun _ => 0) 1 800) 2 600))) :: (a, .inr (6, [.ref q8, .ref q17, .ref q24, .int 0, .ref q32, .int 0, .ref q40, .ref q48, .ref q56, .ref q64, .ref q72, .ref q80, .ref q88, .ref q96, .ref q104, .ref q112])) :: (q112, .inl (g.2.2.1 0, 41, .inl (fun _ => 0))) :: (q104, .inl (g.2.2.1 0, 40, .inl (fun _ => 0))) :: (q96, .inl (g.2.2.1 2, 40, .inr (.inl (fun _ => 0)))) :: (q88, .inl (g.2.2.1 1, 40, .inl (fun _ => 0))) :: (q80, .inl (g.2.2.1 0, 40, .inl (fun _ => 0))) :: (q72, .inl (g.2.2.1 0, 40, .inl (fun _ => 0))) :: (q64, .inl (g.2.2.1 0, 80, .inl (fun _ => 0))) :: (q56, .inl (g.2.2.1 0, 80, .inl (fun _ => 0))) :: (q48, .inl (g.2.2.1 0, 80, .inl (fun _ => 0))) :: (q40, .inl (g.2.2.1 1, 40, .inl (fun _ => 0))) :: (q32, .inl (g.2.2.1 0, 40, .inl (fun _ => 0))) :: (q24, .inl (g.2.2.1 1, 2, .inl (fun _ => 0))) :: (q17, .inl (g.2.2.1 0, 1686, .inl (fun _ => 0))) :: B) 137 [(0, .ref a)] [.int (-1), .ref a]
  refine y_callV (pc := 137) (st := []) (q0 := 1) (ci := 6) hC [.int (-1)] (kI6_make C.2.1 g ((q112, .inl (g.2.2.1 0, 41, .inl (fun _ => 0))) :: (q104, .inl (g.2.2.1 0, 40, .inl (fun _ => 0))) :: (q96, .inl (g.2.2.1 2, 40, .inr (.inl (fun _ => 0)))) :: (q88, .inl (g.2.2.1 1, 40, .inl (fun _ => 0))) :: (q80, .inl (g.2.2.1 0, 40, .inl (fun _ => 0))) :: (q72, .inl (g.2.2.1 0, 40, .inl (fun _ => 0))) :: (q64, .inl (g.2.2.1 0, 80, .inl (fun _ => 0))) :: (q56, .inl (g.2.2.1 0, 80, .inl (fun _ => 0))) :: (q48, .inl (g.2.2.1 0, 80, .inl (fun _ => 0))) :: (q40, .inl (g.2.2.1 1, 40, .inl (fun _ => 0))) :: (q32, .inl (g.2.2.1 0, 40, .inl (fun _ => 0))) :: (q24, .inl (g.2.2.1 1, 2, .inl (fun _ => 0))) :: (q17, .inl (g.2.2.1 0, 1686, .inl (fun _ => 0))) :: B) a q8 [.ref q8, .ref q17, .ref q24, .int 0, .ref q32, .int 0, .ref q40, .ref q48, .ref q56, .ref q64, .ref q72, .ref q80, .ref q88, .ref q96, .ref q104, .ref q112] rfl (upd (upd (fun _ => 0) 1 800) 2 600) rfl (-1)) rfl rfl zkX6_make zm_4_66 ⟨rfl, rfl⟩ rfl rfl hRm ⟨Nat.le_of_ble_eq_true rfl, Nat.le_of_ble_eq_true rfl⟩ (Nat.le_of_ble_eq_true rfl) ⟨(Nat.le_of_ble_eq_true rfl), (Nat.le_of_ble_eq_true rfl)⟩ dX6_init_137 ?_
  intro v Y hR
  obtain ⟨hv, hY⟩ := hR
  subst hv
  subst hY
  show zI C g 1 14 3092 ((q8, .inl (g.2.2.1 0, 843, .inl (upd (zmk (upd (upd (upd (fun _ => 0) 1 800) 2 600) 3 (-1)) 20) 0 (0 + 1)))) :: (a, .inr (6, [.ref q8, .ref q17, .ref q24, .int 0, .ref q32, .int 0, .ref q40, .ref q48, .ref q56, .ref q64, .ref q72, .ref q80, .ref q88, .ref q96, .ref q104, .ref q112])) :: (q112, .inl (g.2.2.1 0, 41, .inl (fun _ => 0))) :: (q104, .inl (g.2.2.1 0, 40, .inl (fun _ => 0))) :: (q96, .inl (g.2.2.1 2, 40, .inr (.inl (fun _ => 0)))) :: (q88, .inl (g.2.2.1 1, 40, .inl (fun _ => 0))) :: (q80, .inl (g.2.2.1 0, 40, .inl (fun _ => 0))) :: (q72, .inl (g.2.2.1 0, 40, .inl (fun _ => 0))) :: (q64, .inl (g.2.2.1 0, 80, .inl (fun _ => 0))) :: (q56, .inl (g.2.2.1 0, 80, .inl (fun _ => 0))) :: (q48, .inl (g.2.2.1 0, 80, .inl (fun _ => 0))) :: (q40, .inl (g.2.2.1 1, 40, .inl (fun _ => 0))) :: (q32, .inl (g.2.2.1 0, 40, .inl (fun _ => 0))) :: (q24, .inl (g.2.2.1 1, 2, .inl (fun _ => 0))) :: (q17, .inl (g.2.2.1 0, 1686, .inl (fun _ => 0))) :: B) 140 [(0, .ref a)] [.int 0]
  refine y_pop (pc := 140) hC dX6_init_140 rfl ?_
  exact y_vret (pc := 141) hC hE dX6_init_141 ⟨rfl, q8, q17, q24, q32, q40, q48, q56, q64, q72, q80, q88, q96, q104, q112, rfl⟩
end ZCT3
