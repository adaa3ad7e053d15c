section ZCT2
theorem zperm {α : Type} (l1 l2 E : List α) : (l1 ++ l2 ++ E).Perm (l2 ++ l1 ++ E) := List.perm_append_comm.append_right E

theorem zp2_2 {α : Type} (x0 x1 y0 y1 : α) (E : List α) : (x0 :: x1 :: y0 :: y1 :: E).Perm (y0 :: y1 :: x0 :: x1 :: E) := zperm [x0, x1] [y0, y1] E
theorem zp2_4 {α : Type} (x0 x1 y0 y1 y2 y3 : α) (E : List α) : (x0 :: x1 :: y0 :: y1 :: y2 :: y3 :: E).Perm (y0 :: y1 :: y2 :: y3 :: x0 :: x1 :: E) := zperm [x0, x1] [y0, y1, y2, y3] E
theorem zp13_2 {α : Type} (x0 x1 x2 x3 x4 x5 x6 x7 x8 x9 x10 x11 x12 y0 y1 : α) (E : List α) : (x0 :: x1 :: x2 :: x3 :: x4 :: x5 :: x6 :: x7 :: x8 :: x9 :: x10 :: x11 :: x12 :: y0 :: y1 :: E).Perm (y0 :: y1 :: x0 :: x1 :: x2 :: x3 :: x4 :: x5 :: x6 :: x7 :: x8 :: x9 :: x10 :: x11 :: x12 :: E) := zperm [x0, x1, x2, x3, x4, x5, x6, x7, x8, x9, x10, x11, x12] [y0, y1] E
/-- the boxes 1 .. i and their styles -/
def zbxL (g : zG) (aa ss : Nat → Nat) : Nat → va_W
  | 0 => []
  | i + 1 => (ss (i + 1), .inl (g.2.2.1 0, 20, .inl (fun _ => 0))) :: (aa (i + 1), .inr (0, [.int (nI (i + 1)), .ref (ss (i + 1)), .int 0, .null, .int 0, .int 0, .null, .null, .int 0, .null, .int 0, .int 0, .int 0, .int 0, .int 0, .int 0, .int 0, .int 0])) :: zbxL g aa ss i
theorem zbxL_congr {g : zG} {aa aa' ss ss' : Nat → Nat} : ∀ {i : Nat}, (∀ j, j ≤ i → aa j = aa' j ∧ ss j = ss' j) → zbxL g aa ss i = zbxL g aa' ss' i
  | 0, _ => rfl
  | i + 1, h => by
    have h1 := h (i + 1) (Nat.le_refl _)
    unfold zbxL
    rw [h1.1, h1.2, zbxL_congr (i := i) (fun j hj => h j (by omega))]
/-- .. in the making: F the row of boxes, E the cells -/
def zbxE (g : zG) (B : va_W) (a0 s0 m : Nat) (F : Nat → Option Nat) (E : va_W) : Prop := ∃ aa ss : Nat → Nat, aa 0 = a0 ∧ ss 0 = s0 ∧ (∀ j, F j = if j < m + 1 then some (aa j) else none) ∧ E = zbxL g aa ss m ++ B
theorem zbxE_0 {g : zG} {B : va_W} {a0 s0 : Nat} : zbxE g B a0 s0 0 (va_up (fun _ => none) 0 (some a0)) B := ⟨fun _ => a0, fun _ => s0, rfl, rfl, fun j => by
  unfold va_up
  by_cases e : j = 0
  · rw [if_pos e, if_pos (by omega)]
  · rw [if_neg e, if_neg (by omega)], rfl⟩
theorem zbxE_s {g : zG} {B : va_W} {a0 s0 m : Nat} {F : Nat → Option Nat} {E : va_W} (h : zbxE g B a0 s0 m F E) (a s : Nat) : zbxE g B a0 s0 (m + 1) (va_up F (m + 1) (some a)) ((s, .inl (g.2.2.1 0, 20, .inl (fun _ => 0))) :: (a, .inr (0, [.int (nI (m + 1)), .ref s, .int 0, .null, .int 0, .int 0, .null, .null, .int 0, .null, .int 0, .int 0, .int 0, .int 0, .int 0, .int 0, .int 0, .int 0])) :: E) := by
  obtain ⟨aa, ss, h1, h2, h3, h4⟩ := h
  have e0 : (fun j => if j = m + 1 then a else aa j : Nat → Nat) (m + 1) = a := if_pos rfl
  have e1 : (fun j => if j = m + 1 then s else ss j : Nat → Nat) (m + 1) = s := if_pos rfl
  refine ⟨fun j => if j = m + 1 then a else aa j, fun j => if j = m + 1 then s else ss j, ?_, ?_, fun j => ?_, ?_⟩
  · rw [← h1]; exact if_neg (by omega)
  · rw [← h2]; exact if_neg (by omega)
  · unfold va_up
    dsimp only
    by_cases e : j = m + 1
    · rw [if_pos e, if_pos (by omega), if_pos e]
    · rw [if_neg e, h3 j, if_neg e]
      by_cases q : j < m + 1
      · rw [if_pos q, if_pos (by omega)]
      · rw [if_neg q, if_neg (by omega)]
  · rw [h4]
    show _ = (_, _) :: (_, _) :: (zbxL g _ _ m ++ B)
    rw [e0, e1, ← zbxL_congr (g := g) (aa := aa) (ss := ss) (i := m) (fun j hj => ⟨(if_neg (by omega)).symm, (if_neg (by omega)).symm⟩)]
set_option maxHeartbeats 4000000 in
set_option maxRecDepth 100000 in
theorem kX4_init (lx : Launch) (g : zG) (B : va_W) (a : Nat) : z_CtI lx yX4_init (zT yX4_init cX4_init 2 (Option.none : Option FieldType)) ({ frames := 2, cells := 81, slots := 1560, locals := 41 } : Room) g [.ref a] ((a, .inr (4, [.null, .null, .int 0, .int 0, .int 0])) :: B) (fun v Y => v = none ∧ ∃ (bs : Nat) (aa ss : Nat → Nat) (F : Nat → Option Nat), (∀ j, F j = if j < 39 + 1 then some (aa j) else none) ∧ Y = (ss 0, .inl (g.2.2.1 0, 20, .inl (fun j => if j < 20 then z_st 2 j else 0))) :: (aa 0, .inr (0, [.int 0, .ref (ss 0), .int 1, .null, .int 0, .int 0, .null, .null, .int 0, .null, .int 0, .int 0, .int 0, .int 0, .int 0, .int 0, .int 0, .int 0])) :: (bs, .inl (g.2.2.1 3, 40, .inr (.inr (.inr (.inr F))))) :: (a, .inr (4, [.ref bs, .ref (aa 0), .int 1, .int 800, .int 600])) :: (B ++ zbxL g aa ss 39)) 81 1560 := by
  refine y_of (by decide) (Nat.le_of_ble_eq_true rfl) (lv0 := [(0, .ref a)]) rfl ?_
  intro C hlx hC hE hRm hN0
  have hC : zX0 C cX4_init 2 RX4 (zT yX4_init cX4_init 2 (Option.none : Option FieldType)) g := hC
  have hN : C.2.2.2.2.2.2.2.2.1.name = "<init>" := hN0
  refine y_aload_n (pc := 0) hC 0 dX4_init_0 rfl rfl z_isr_r ?_
  refine y_obj (pc := 1) hC zm_1_26 zm_1_19 zm_1_20 hRm (Nat.le_of_ble_eq_true rfl) (Nat.le_of_ble_eq_true rfl) dX4_init_1 ?_
  refine y_aload_n (pc := 4) hC 0 dX4_init_4 rfl rfl z_isr_r ?_
  refine y_bipush (pc := 5) (v := 40) hC dX4_init_5 rfl ?_
  refine y_newq (pc := 7) (N' := 40) hC 3 zm_1_27 hC.2.2.2.2.2.2.1.1 rfl (by decide) (by decide) (Nat.le_of_ble_eq_true rfl) hRm (Nat.le_of_ble_eq_true rfl) (Nat.le_of_ble_eq_true rfl) dX4_init_7 (fun q7 => ?_)
  show zI C g 2 1 40 ((q7, .inl (g.2.2.1 3, 40, .inr (.inr (.inr (.inr (fun _ => none)))))) :: (a, .inr (4, [.null, .null, .int 0, .int 0, .int 0])) :: B) 10 [(0, .ref a)] [.ref q7, .ref a]
  refine y_putF (pc := 10) hC hN 4 0 1 rfl rfl inX4 tyX4_ok nmX4 (by decide) zm_1_126 rfl rfl rfl rfl (Nat.le_of_ble_eq_true rfl) dX4_init_10 ?_
  show zI C g 2 1 40 ((q7, .inl (g.2.2.1 3, 40, .inr (.inr (.inr (.inr (fun _ => none)))))) :: (a, .inr (4, [.ref q7, .null, .int 0, .int 0, .int 0])) :: B) 13 [(0, .ref a)] []
  refine y_aload_n (pc := 13) hC 0 dX4_init_13 rfl rfl z_isr_r ?_
  refine y_new (pc := 14) (fs := [.int 0, .null, .int 0, .null, .int 0, .int 0, .null, .null, .int 0, .null, .int 0, .int 0, .int 0, .int 0, .int 0, .int 0, .int 0, .int 0]) hC 0 rfl inX0 tyX0_ok zm_1_27 zm_1_29 zm_1_3 (by intro j hj; rcases (by omega : j = 0 ∨ j = 1 ∨ j = 2 ∨ j = 3 ∨ j = 4 ∨ j = 5 ∨ j = 6 ∨ j = 7 ∨ j = 8 ∨ j = 9 ∨ j = 10 ∨ j = 11 ∨ j = 12 ∨ j = 13 ∨ j = 14 ∨ j = 15 ∨ j = 16 ∨ j = 17) with rfl | rfl | rfl | rfl | rfl | rfl | rfl | rfl | rfl | rfl | rfl | rfl | rfl | rfl | rfl | rfl | rfl | rfl <;> rfl) hRm (Nat.le_of_ble_eq_true rfl) (Nat.le_of_ble_eq_true rfl) dX4_init_14 (fun q14 => ?_)
  show zI C g 2 2 58 ((q14, .inr (0, [.int 0, .null, .int 0, .null, .int 0, .int 0, .null, .null, .int 0, .null, .int 0, .int 0, .int 0, .int 0, .int 0, .int 0, .int 0, .int 0])) :: (q7, .inl (g.2.2.1 3, 40, .inr (.inr (.inr (.inr (fun _ => none)))))) :: (a, .inr (4, [.ref q7, .null, .int 0, .int 0, .int 0])) :: B) 17 [(0, .ref a)] [.ref q14, .ref a]
  refine y_dup (pc := 17) hC dX4_init_17 rfl ?_
  refine y_iconst (pc := 18) (v := 0) hC dX4_init_18 rfl ?_
  refine y_callI (pc := 19) (st := [.ref q14, .ref a]) hC [.int 0] (kX0_init C.2.1 g ((q7, .inl (g.2.2.1 3, 40, .inr (.inr (.inr (.inr (fun _ => none)))))) :: (a, .inr (4, [.ref q7, .null, .int 0, .int 0, .int 0])) :: B) q14 0) zjX0_init zm_1_30 ⟨rfl, rfl⟩ rfl rfl hRm ⟨Nat.le_of_ble_eq_true rfl, Nat.le_of_ble_eq_true rfl⟩ (Nat.le_of_ble_eq_true rfl) ⟨(Nat.le_of_ble_eq_true rfl), (Nat.le_of_ble_eq_true rfl)⟩ dX4_init_19 ?_
  intro v Y hR
  obtain ⟨hv, s14, hY⟩ := hR
  subst hv
  subst hY
  show zI C g 2 3 78 ((s14, .inl (g.2.2.1 0, 20, .inl (fun _ => 0))) :: (q14, .inr (0, [.int 0, .ref s14, .int 0, .null, .int 0, .int 0, .null, .null, .int 0, .null, .int 0, .int 0, .int 0, .int 0, .int 0, .int 0, .int 0, .int 0])) :: (q7, .inl (g.2.2.1 3, 40, .inr (.inr (.inr (.inr (fun _ => none)))))) :: (a, .inr (4, [.ref q7, .null, .int 0, .int 0, .int 0])) :: B) 22 [(0, .ref a)] [.ref q14, .ref a]
  refine y_putF (pc := 22) hC hN 4 1 3 rfl rfl inX4 tyX4_ok nmX4 (by decide) zm_1_127 rfl rfl rfl rfl (Nat.le_of_ble_eq_true rfl) dX4_init_22 ?_
  show zI C g 2 3 78 ((s14, .inl (g.2.2.1 0, 20, .inl (fun _ => 0))) :: (q14, .inr (0, [.int 0, .ref s14, .int 0, .null, .int 0, .int 0, .null, .null, .int 0, .null, .int 0, .int 0, .int 0, .int 0, .int 0, .int 0, .int 0, .int 0])) :: (q7, .inl (g.2.2.1 3, 40, .inr (.inr (.inr (.inr (fun _ => none)))))) :: (a, .inr (4, [.ref q7, .ref q14, .int 0, .int 0, .int 0])) :: B) 25 [(0, .ref a)] []
  refine y_aload_n (pc := 25) hC 0 dX4_init_25 rfl rfl z_isr_r ?_
  refine y_iconst (pc := 26) (v := 1) hC dX4_init_26 rfl ?_
  refine y_put (pc := 27) hC 4 2 3 rfl rfl inX4 tyX4_ok nmX4 (by decide) zm_1_129 rfl rfl rfl (Nat.le_of_ble_eq_true rfl) dX4_init_27 ?_
  show zI C g 2 3 78 ((s14, .inl (g.2.2.1 0, 20, .inl (fun _ => 0))) :: (q14, .inr (0, [.int 0, .ref s14, .int 0, .null, .int 0, .int 0, .null, .null, .int 0, .null, .int 0, .int 0, .int 0, .int 0, .int 0, .int 0, .int 0, .int 0])) :: (q7, .inl (g.2.2.1 3, 40, .inr (.inr (.inr (.inr (fun _ => none)))))) :: (a, .inr (4, [.ref q7, .ref q14, .int 1, .int 0, .int 0])) :: B) 30 [(0, .ref a)] []
  refine y_aload_n (pc := 30) hC 0 dX4_init_30 rfl rfl z_isr_r ?_
  refine y_sipush (pc := 31) (v := 800) hC dX4_init_31 rfl ?_
  refine y_put (pc := 34) hC 4 3 3 rfl rfl inX4 tyX4_ok nmX4 (by decide) zm_1_130 rfl rfl rfl (Nat.le_of_ble_eq_true rfl) dX4_init_34 ?_
  show zI C g 2 3 78 ((s14, .inl (g.2.2.1 0, 20, .inl (fun _ => 0))) :: (q14, .inr (0, [.int 0, .ref s14, .int 0, .null, .int 0, .int 0, .null, .null, .int 0, .null, .int 0, .int 0, .int 0, .int 0, .int 0, .int 0, .int 0, .int 0])) :: (q7, .inl (g.2.2.1 3, 40, .inr (.inr (.inr (.inr (fun _ => none)))))) :: (a, .inr (4, [.ref q7, .ref q14, .int 1, .int 800, .int 0])) :: B) 37 [(0, .ref a)] []
  refine y_aload_n (pc := 37) hC 0 dX4_init_37 rfl rfl z_isr_r ?_
  refine y_sipush (pc := 38) (v := 600) hC dX4_init_38 rfl ?_
  refine y_put (pc := 41) hC 4 4 3 rfl rfl inX4 tyX4_ok nmX4 (by decide) zm_1_133 rfl rfl rfl (Nat.le_of_ble_eq_true rfl) dX4_init_41 ?_
  show zI C g 2 3 78 ((s14, .inl (g.2.2.1 0, 20, .inl (fun _ => 0))) :: (q14, .inr (0, [.int 0, .ref s14, .int 0, .null, .int 0, .int 0, .null, .null, .int 0, .null, .int 0, .int 0, .int 0, .int 0, .int 0, .int 0, .int 0, .int 0])) :: (q7, .inl (g.2.2.1 3, 40, .inr (.inr (.inr (.inr (fun _ => none)))))) :: (a, .inr (4, [.ref q7, .ref q14, .int 1, .int 800, .int 600])) :: B) 44 [(0, .ref a)] []
  refine y_aload_n (pc := 44) hC 0 dX4_init_44 rfl rfl z_isr_r ?_
  refine y_get (pc := 45) hC 4 0 3 (v := .ref q7) rfl rfl inX4 (by decide) zm_1_126 rfl dX4_init_45 ?_
  refine y_iconst (pc := 48) (v := 0) hC dX4_init_48 rfl ?_
  refine y_aload_n (pc := 49) hC 0 dX4_init_49 rfl rfl z_isr_r ?_
  refine y_get (pc := 50) hC 4 1 3 (v := .ref q14) rfl rfl inX4 (by decide) zm_1_127 rfl dX4_init_50 ?_
  refine y_aast (pc := 53) hC 3 2 1 0 0 rfl rfl rfl rfl rfl (by decide) (by decide) dX4_init_53 ?_
  show zI C g 2 3 78 ((s14, .inl (g.2.2.1 0, 20, .inl (fun _ => 0))) :: (q14, .inr (0, [.int 0, .ref s14, .int 0, .null, .int 0, .int 0, .null, .null, .int 0, .null, .int 0, .int 0, .int 0, .int 0, .int 0, .int 0, .int 0, .int 0])) :: (q7, .inl (g.2.2.1 3, 40, .inr (.inr (.inr (.inr (va_up (fun _ => none) 0 (some q14))))))) :: (a, .inr (4, [.ref q7, .ref q14, .int 1, .int 800, .int 600])) :: B) 54 [(0, .ref a)] []
  refine y_iconst (pc := 54) (v := 1) hC dX4_init_54 rfl ?_
  refine y_istore_n (pc := 55) (lv' := [(1, .int 1), (0, .ref a)]) hC dX4_init_55 rfl (by decide) rfl ?_
  refine y_perm (zp2_2 _ _ _ _ _) ?_
  show zI C g 2 3 78 ((q7, .inl (g.2.2.1 3, 40, .inr (.inr (.inr (.inr (va_up (fun _ => none) 0 (some q14))))))) :: (a, .inr (4, [.ref q7, .ref q14, .int 1, .int 800, .int 600])) :: (s14, .inl (g.2.2.1 0, 20, .inl (fun _ => 0))) :: (q14, .inr (0, [.int 0, .ref s14, .int 0, .null, .int 0, .int 0, .null, .null, .int 0, .null, .int 0, .int 0, .int 0, .int 0, .int 0, .int 0, .int 0, .int 0])) :: B) 56 [(1, .int 1), (0, .ref a)] []
  have L56 : ∀ (zf m : Nat) (F : Nat → Option Nat) (E : va_W), m ≤ 39 → zbxE g B q14 s14 m F E → 39 - m < zf → zI C g 2 (3 + 2 * m) (78 + 38 * m) ((q7, .inl (g.2.2.1 3, 40, .inr (.inr (.inr (.inr F))))) :: (a, .inr (4, [.ref q7, .ref q14, .int 1, .int 800, .int 600])) :: (s14, .inl (g.2.2.1 0, 20, .inl (fun _ => 0))) :: (q14, .inr (0, [.int 0, .ref s14, .int 0, .null, .int 0, .int 0, .null, .null, .int 0, .null, .int 0, .int 0, .int 0, .int 0, .int 0, .int 0, .int 0, .int 0])) :: E) 56 [(1, .int (nI (m + 1))), (0, .ref a)] [] := by
    intro zf
    induction zf with
    | zero =>
      intro m F E hm hz hn2
      exact absurd hn2 (Nat.not_lt_zero _)
    | succ zf ih =>
      intro m F E hm hz hn2
      refine y_iload_n (pc := 56) hC 0 dX4_init_56 rfl rfl ?_
      refine y_bipush (pc := 57) (v := 40) hC dX4_init_57 rfl ?_
      refine y_icmp_ge (pc := 59) (tgt := 82) hC dX4_init_59 (by decide) (fun h59 => ?_) (fun h59 => ?_)
      · skip
        have em : m = 39 := by have := zc_ge (n := 40) (i := m + 1) h59 (by omega) (by decide); omega
        subst em
        refine y_perm (zp2_2 _ _ _ _ _) ?_
        show zI C g 2 81 1560 ((s14, .inl (g.2.2.1 0, 20, .inl (fun _ => 0))) :: (q14, .inr (0, [.int 0, .ref s14, .int 0, .null, .int 0, .int 0, .null, .null, .int 0, .null, .int 0, .int 0, .int 0, .int 0, .int 0, .int 0, .int 0, .int 0])) :: (q7, .inl (g.2.2.1 3, 40, .inr (.inr (.inr (.inr F))))) :: (a, .inr (4, [.ref q7, .ref q14, .int 1, .int 800, .int 600])) :: E) 82 [(1, .int (nI (39 + 1))), (0, .ref a)] []
        refine y_aload_n (pc := 82) hC 1 dX4_init_82 rfl rfl z_isr_r ?_
        refine y_get (pc := 83) hC 4 1 3 (v := .ref q14) rfl rfl inX4 (by decide) zm_1_127 rfl dX4_init_83 ?_
        refine y_null (pc := 86) hC dX4_init_86 ?_
        refine y_callV (pc := 87) (st := []) (q0 := 1) (ci := 0) hC [.null] (kI0_begin C.2.1 g ((q7, .inl (g.2.2.1 3, 40, .inr (.inr (.inr (.inr F))))) :: (a, .inr (4, [.ref q7, .ref q14, .int 1, .int 800, .int 600])) :: E) q14 s14 0 (fun _ => 0)) rfl rfl zkX0_begin zm_1_120 ⟨rfl, rfl⟩ rfl rfl hRm ⟨Nat.le_of_ble_eq_true rfl, Nat.le_of_ble_eq_true rfl⟩ (Nat.le_of_ble_eq_true rfl) ⟨(Nat.le_of_ble_eq_true rfl), (Nat.le_of_ble_eq_true rfl)⟩ dX4_init_87 ?_
        intro v Y hR
        obtain ⟨hv, hY⟩ := hR
        subst hv
        subst hY
        show zI C g 2 81 1560 ((s14, .inl (g.2.2.1 0, 20, .inl (fun j => if j < 20 then z_st 2 j else 0))) :: (q14, .inr (0, [.int 0, .ref s14, .int 1, .null, .int 0, .int 0, .null, .null, .int 0, .null, .int 0, .int 0, .int 0, .int 0, .int 0, .int 0, .int 0, .int 0])) :: (q7, .inl (g.2.2.1 3, 40, .inr (.inr (.inr (.inr F))))) :: (a, .inr (4, [.ref q7, .ref q14, .int 1, .int 800, .int 600])) :: E) 90 [(1, .int (nI (39 + 1))), (0, .ref a)] []
        obtain ⟨aa, ss, hz1, hz2, hz3, hz4⟩ := hz
        subst hz4
        rw [← hz1, ← hz2]
        refine y_perm (((List.perm_append_comm (l₁ := zbxL g aa ss 39) (l₂ := B)).append_left [_, _, _, _])) ?_
        exact y_vret (pc := 90) hC hE dX4_init_90 ⟨rfl, q7, aa, ss, F, hz3, rfl⟩
      · skip
        have hm39 : m + 1 < 40 := zc_lt (n := 40) (i := m + 1) h59 (by omega) (by decide)
        refine y_aload_n (pc := 62) hC 1 dX4_init_62 rfl rfl z_isr_r ?_
        refine y_get (pc := 63) hC 4 0 1 (v := .ref q7) rfl rfl inX4 (by decide) zm_1_126 rfl dX4_init_63 ?_
        refine y_iload_n (pc := 66) hC 0 dX4_init_66 rfl rfl ?_
        refine y_new (pc := 67) (fs := [.int 0, .null, .int 0, .null, .int 0, .int 0, .null, .null, .int 0, .null, .int 0, .int 0, .int 0, .int 0, .int 0, .int 0, .int 0, .int 0]) hC 0 rfl inX0 tyX0_ok zm_1_27 zm_1_29 zm_1_3 (by intro j hj; rcases (by omega : j = 0 ∨ j = 1 ∨ j = 2 ∨ j = 3 ∨ j = 4 ∨ j = 5 ∨ j = 6 ∨ j = 7 ∨ j = 8 ∨ j = 9 ∨ j = 10 ∨ j = 11 ∨ j = 12 ∨ j = 13 ∨ j = 14 ∨ j = 15 ∨ j = 16 ∨ j = 17) with rfl | rfl | rfl | rfl | rfl | rfl | rfl | rfl | rfl | rfl | rfl | rfl | rfl | rfl | rfl | rfl | rfl | rfl <;> rfl) hRm (by show _ ≤ 81; omega) (by show _ ≤ 1560; omega) dX4_init_67 (fun q67 => ?_)
        show zI C g 2 ((3 + 2 * m) + 1) ((78 + 38 * m) + 18) ((q67, .inr (0, [.int 0, .null, .int 0, .null, .int 0, .int 0, .null, .null, .int 0, .null, .int 0, .int 0, .int 0, .int 0, .int 0, .int 0, .int 0, .int 0])) :: (q7, .inl (g.2.2.1 3, 40, .inr (.inr (.inr (.inr F))))) :: (a, .inr (4, [.ref q7, .ref q14, .int 1, .int 800, .int 600])) :: (s14, .inl (g.2.2.1 0, 20, .inl (fun _ => 0))) :: (q14, .inr (0, [.int 0, .ref s14, .int 0, .null, .int 0, .int 0, .null, .null, .int 0, .null, .int 0, .int 0, .int 0, .int 0, .int 0, .int 0, .int 0, .int 0])) :: E) 70 [(1, .int (nI (m + 1))), (0, .ref a)] [.ref q67, .int (nI (m + 1)), .ref q7]
        refine y_dup (pc := 70) hC dX4_init_70 rfl ?_
        refine y_iload_n (pc := 71) hC 0 dX4_init_71 rfl rfl ?_
        refine y_callI (pc := 72) (st := [.ref q67, .int (nI (m + 1)), .ref q7]) hC [.int (nI (m + 1))] (kX0_init C.2.1 g ((q7, .inl (g.2.2.1 3, 40, .inr (.inr (.inr (.inr F))))) :: (a, .inr (4, [.ref q7, .ref q14, .int 1, .int 800, .int 600])) :: (s14, .inl (g.2.2.1 0, 20, .inl (fun _ => 0))) :: (q14, .inr (0, [.int 0, .ref s14, .int 0, .null, .int 0, .int 0, .null, .null, .int 0, .null, .int 0, .int 0, .int 0, .int 0, .int 0, .int 0, .int 0, .int 0])) :: E) q67 (nI (m + 1))) zjX0_init zm_1_30 ⟨rfl, rfl⟩ rfl rfl hRm ⟨Nat.le_of_ble_eq_true rfl, Nat.le_of_ble_eq_true rfl⟩ (Nat.le_of_ble_eq_true rfl) ⟨(by show _ ≤ 81; omega), (by show _ ≤ 1560; omega)⟩ dX4_init_72 ?_
        intro v Y hR
        obtain ⟨hv, s67, hY⟩ := hR
        subst hv
        subst hY
        show zI C g 2 (((3 + 2 * m) + 1) + 1) (((78 + 38 * m) + 18) + 20) ((s67, .inl (g.2.2.1 0, 20, .inl (fun _ => 0))) :: (q67, .inr (0, [.int (nI (m + 1)), .ref s67, .int 0, .null, .int 0, .int 0, .null, .null, .int 0, .null, .int 0, .int 0, .int 0, .int 0, .int 0, .int 0, .int 0, .int 0])) :: (q7, .inl (g.2.2.1 3, 40, .inr (.inr (.inr (.inr F))))) :: (a, .inr (4, [.ref q7, .ref q14, .int 1, .int 800, .int 600])) :: (s14, .inl (g.2.2.1 0, 20, .inl (fun _ => 0))) :: (q14, .inr (0, [.int 0, .ref s14, .int 0, .null, .int 0, .int 0, .null, .null, .int 0, .null, .int 0, .int 0, .int 0, .int 0, .int 0, .int 0, .int 0, .int 0])) :: E) 75 [(1, .int (nI (m + 1))), (0, .ref a)] [.ref q67, .int (nI (m + 1)), .ref q7]
        refine y_aast (pc := 75) hC 3 2 1 0 (m + 1) rfl rfl rfl rfl rfl hm39 (by decide) dX4_init_75 ?_
        show zI C g 2 (((3 + 2 * m) + 1) + 1) (((78 + 38 * m) + 18) + 20) ((s67, .inl (g.2.2.1 0, 20, .inl (fun _ => 0))) :: (q67, .inr (0, [.int (nI (m + 1)), .ref s67, .int 0, .null, .int 0, .int 0, .null, .null, .int 0, .null, .int 0, .int 0, .int 0, .int 0, .int 0, .int 0, .int 0, .int 0])) :: (q7, .inl (g.2.2.1 3, 40, .inr (.inr (.inr (.inr (va_up F (m + 1) (some q67))))))) :: (a, .inr (4, [.ref q7, .ref q14, .int 1, .int 800, .int 600])) :: (s14, .inl (g.2.2.1 0, 20, .inl (fun _ => 0))) :: (q14, .inr (0, [.int 0, .ref s14, .int 0, .null, .int 0, .int 0, .null, .null, .int 0, .null, .int 0, .int 0, .int 0, .int 0, .int 0, .int 0, .int 0, .int 0])) :: E) 76 [(1, .int (nI (m + 1))), (0, .ref a)] []
        refine y_iinc (pc := 76) (v := nI (m + 1 + 1)) (lv' := [(1, .int (nI (m + 1 + 1))), (0, .ref a)]) hC 0 dX4_init_76 rfl (nI_1 (m + 1)) (by decide) rfl ?_
        refine y_goto (pc := 79) (tgt := 56) hC dX4_init_79 (by decide) ?_
        refine y_lvs (lv' := [(1, .int (nI (m + 1 + 1))), (0, .ref a)]) [0, 1] rfl ?_
        refine y_widen (k := 3 + 2 * (m + 1)) (n := 78 + 38 * (m + 1)) (by omega) (by omega) ?_
        refine y_perm (zp2_4 _ _ _ _ _ _ _) ?_
        exact ih (m + 1) _ _ (by omega) (zbxE_s hz q67 s67) (by omega)
  exact L56 40 0 _ B (by decide) zbxE_0 (by decide)
set_option maxHeartbeats 4000000 in
set_option maxRecDepth 100000 in
theorem kX5_init (lx : Launch) (g : zG) (B : va_W) (a : Nat) : z_CtI lx yX5_init (zT yX5_init cX5_init 1 (Option.none : Option FieldType)) ({ frames := 3, cells := 94, slots := 1941, locals := 62 } : Room) g [.ref a] ((a, .inr (5, [.null, .null, .null])) :: B) (fun v Y => v = none ∧ ∃ (q5 q16 q32 qf qf0 qf1 qf2 qf3 qf4 qf5 qf6 qf7 qf8 bs : Nat) (aa ss : Nat → Nat) (F : Nat → Option Nat), (∀ j, F j = if j < 39 + 1 then some (aa j) else none) ∧ Y = (q32, .inl (g.2.2.1 4, 2, .inr (.inr (.inr (.inr (fun _ => none)))))) :: (qf8, .inl (g.2.2.1 1, 40, .inl (fun _ => 0))) :: (qf7, .inl (g.2.2.1 0, 40, .inl (fun _ => 0))) :: (qf6, .inl (g.2.2.1 0, 40, .inl (fun _ => 0))) :: (qf5, .inl (g.2.2.1 0, 40, .inl (fun _ => 0))) :: (qf4, .inl (g.2.2.1 0, 40, .inl (fun _ => 0))) :: (qf3, .inl (g.2.2.1 0, 40, .inl (fun _ => 0))) :: (qf2, .inl (g.2.2.1 0, 40, .inl (fun _ => 0))) :: (qf1, .inl (g.2.2.1 0, 40, .inl (fun _ => 0))) :: (qf0, .inl (g.2.2.1 0, 40, .inl (fun _ => 0))) :: (qf, .inr (1, [.ref qf0, .ref qf1, .ref qf2, .ref qf3, .ref qf4, .ref qf5, .ref qf6, .ref qf7, .ref qf8, .int 0, .int 0])) :: (q16, .inr (2, [.ref q5, .ref qf, .int 1])) :: ((ss 0), .inl (g.2.2.1 0, 20, .inl (fun j => if j < 20 then z_st 2 j else 0))) :: ((aa 0), .inr (0, [.int 0, .ref (ss 0), .int 1, .null, .int 0, .int 0, .null, .null, .int 0, .null, .int 0, .int 0, .int 0, .int 0, .int 0, .int 0, .int 0, .int 0])) :: (bs, .inl (g.2.2.1 3, 40, .inr (.inr (.inr (.inr F))))) :: (q5, .inr (4, [.ref bs, .ref (aa 0), .int 1, .int 800, .int 600])) :: (a, .inr (5, [.ref q5, .ref q16, .ref q32])) :: (B ++ zbxL g aa ss 39)) 94 1941 := by
  refine y_of (by decide) (Nat.le_of_ble_eq_true rfl) (lv0 := [(0, .ref a)]) rfl ?_
  intro C hlx hC hE hRm hN0
  have hC : zX0 C cX5_init 1 RX5 (zT yX5_init cX5_init 1 (Option.none : Option FieldType)) g := hC
  have hN : C.2.2.2.2.2.2.2.2.1.name = "<init>" := hN0
  refine y_aload_n (pc := 0) hC 0 dX5_init_0 rfl rfl z_isr_r ?_
  refine y_obj (pc := 1) hC zm_1_18 zm_1_19 zm_1_20 hRm (Nat.le_of_ble_eq_true rfl) (Nat.le_of_ble_eq_true rfl) dX5_init_1 ?_
  refine y_aload_n (pc := 4) hC 0 dX5_init_4 rfl rfl z_isr_r ?_
  refine y_new (pc := 5) (fs := [.null, .null, .int 0, .int 0, .int 0]) hC 4 rfl inX4 tyX4_ok zm_1_21 zm_1_22 zm_1_2 (by intro j hj; rcases (by omega : j = 0 ∨ j = 1 ∨ j = 2 ∨ j = 3 ∨ j = 4) with rfl | rfl | rfl | rfl | rfl <;> rfl) hRm (Nat.le_of_ble_eq_true rfl) (Nat.le_of_ble_eq_true rfl) dX5_init_5 (fun q5 => ?_)
  show zI C g 1 1 5 ((q5, .inr (4, [.null, .null, .int 0, .int 0, .int 0])) :: (a, .inr (5, [.null, .null, .null])) :: B) 8 [(0, .ref a)] [.ref q5, .ref a]
  refine y_dup (pc := 8) hC dX5_init_8 rfl ?_
  refine y_callI (pc := 9) (st := [.ref q5, .ref a]) hC [] (kX4_init C.2.1 g ((a, .inr (5, [.null, .null, .null])) :: B) q5) zjX4_init zm_1_23 ⟨rfl, rfl⟩ rfl rfl hRm ⟨Nat.le_of_ble_eq_true rfl, Nat.le_of_ble_eq_true rfl⟩ (Nat.le_of_ble_eq_true rfl) ⟨(Nat.le_of_ble_eq_true rfl), (Nat.le_of_ble_eq_true rfl)⟩ dX5_init_9 ?_
  intro v Y hR
  obtain ⟨hv, bs, aa, ss, F, hF, hY⟩ := hR
  subst hv
  subst hY
  show zI C g 1 82 1565 (((ss 0), .inl (g.2.2.1 0, 20, .inl (fun j => if j < 20 then z_st 2 j else 0))) :: ((aa 0), .inr (0, [.int 0, .ref (ss 0), .int 1, .null, .int 0, .int 0, .null, .null, .int 0, .null, .int 0, .int 0, .int 0, .int 0, .int 0, .int 0, .int 0, .int 0])) :: (bs, .inl (g.2.2.1 3, 40, .inr (.inr (.inr (.inr F))))) :: (q5, .inr (4, [.ref bs, .ref (aa 0), .int 1, .int 800, .int 600])) :: (a, .inr (5, [.null, .null, .null])) :: (B ++ zbxL g aa ss 39)) 12 [(0, .ref a)] [.ref q5, .ref a]
  refine y_putF (pc := 12) hC hN 5 0 4 rfl rfl inX5 tyX5_ok nmX5 (by decide) zm_1_207 rfl rfl rfl rfl (Nat.le_of_ble_eq_true rfl) dX5_init_12 ?_
  show zI C g 1 82 1565 (((ss 0), .inl (g.2.2.1 0, 20, .inl (fun j => if j < 20 then z_st 2 j else 0))) :: ((aa 0), .inr (0, [.int 0, .ref (ss 0), .int 1, .null, .int 0, .int 0, .null, .null, .int 0, .null, .int 0, .int 0, .int 0, .int 0, .int 0, .int 0, .int 0, .int 0])) :: (bs, .inl (g.2.2.1 3, 40, .inr (.inr (.inr (.inr F))))) :: (q5, .inr (4, [.ref bs, .ref (aa 0), .int 1, .int 800, .int 600])) :: (a, .inr (5, [.ref q5, .null, .null])) :: (B ++ zbxL g aa ss 39)) 15 [(0, .ref a)] []
  refine y_aload_n (pc := 15) hC 0 dX5_init_15 rfl rfl z_isr_r ?_
  refine y_new (pc := 16) (fs := [.null, .null, .int 0]) hC 2 rfl inX2 tyX2_ok zm_1_147 zm_1_148 zm_1_4 (by intro j hj; rcases (by omega : j = 0 ∨ j = 1 ∨ j = 2) with rfl | rfl | rfl <;> rfl) hRm (Nat.le_of_ble_eq_true rfl) (Nat.le_of_ble_eq_true rfl) dX5_init_16 (fun q16 => ?_)
  show zI C g 1 83 1568 ((q16, .inr (2, [.null, .null, .int 0])) :: ((ss 0), .inl (g.2.2.1 0, 20, .inl (fun j => if j < 20 then z_st 2 j else 0))) :: ((aa 0), .inr (0, [.int 0, .ref (ss 0), .int 1, .null, .int 0, .int 0, .null, .null, .int 0, .null, .int 0, .int 0, .int 0, .int 0, .int 0, .int 0, .int 0, .int 0])) :: (bs, .inl (g.2.2.1 3, 40, .inr (.inr (.inr (.inr F))))) :: (q5, .inr (4, [.ref bs, .ref (aa 0), .int 1, .int 800, .int 600])) :: (a, .inr (5, [.ref q5, .null, .null])) :: (B ++ zbxL g aa ss 39)) 19 [(0, .ref a)] [.ref q16, .ref a]
  refine y_dup (pc := 19) hC dX5_init_19 rfl ?_
  refine y_aload_n (pc := 20) hC 0 dX5_init_20 rfl rfl z_isr_r ?_
  refine y_get (pc := 21) hC 5 0 5 (v := .ref q5) rfl rfl inX5 (by decide) zm_1_207 rfl dX5_init_21 ?_
  refine y_callI (pc := 24) (st := [.ref q16, .ref a]) hC [.ref q5] (kX2_init C.2.1 g (((ss 0), .inl (g.2.2.1 0, 20, .inl (fun j => if j < 20 then z_st 2 j else 0))) :: ((aa 0), .inr (0, [.int 0, .ref (ss 0), .int 1, .null, .int 0, .int 0, .null, .null, .int 0, .null, .int 0, .int 0, .int 0, .int 0, .int 0, .int 0, .int 0, .int 0])) :: (bs, .inl (g.2.2.1 3, 40, .inr (.inr (.inr (.inr F))))) :: (q5, .inr (4, [.ref bs, .ref (aa 0), .int 1, .int 800, .int 600])) :: (a, .inr (5, [.ref q5, .null, .null])) :: (B ++ zbxL g aa ss 39)) q16 q5) zjX2_init zm_1_149 ⟨rfl, rfl⟩ rfl rfl hRm ⟨Nat.le_of_ble_eq_true rfl, Nat.le_of_ble_eq_true rfl⟩ (Nat.le_of_ble_eq_true rfl) ⟨(Nat.le_of_ble_eq_true rfl), (Nat.le_of_ble_eq_true rfl)⟩ dX5_init_24 ?_
  intro v Y hR
  obtain ⟨hv, qf, qf0, qf1, qf2, qf3, qf4, qf5, qf6, qf7, qf8, hY⟩ := hR
  subst hv
  subst hY
  show zI C g 1 93 1939 ((qf8, .inl (g.2.2.1 1, 40, .inl (fun _ => 0))) :: (qf7, .inl (g.2.2.1 0, 40, .inl (fun _ => 0))) :: (qf6, .inl (g.2.2.1 0, 40, .inl (fun _ => 0))) :: (qf5, .inl (g.2.2.1 0, 40, .inl (fun _ => 0))) :: (qf4, .inl (g.2.2.1 0, 40, .inl (fun _ => 0))) :: (qf3, .inl (g.2.2.1 0, 40, .inl (fun _ => 0))) :: (qf2, .inl (g.2.2.1 0, 40, .inl (fun _ => 0))) :: (qf1, .inl (g.2.2.1 0, 40, .inl (fun _ => 0))) :: (qf0, .inl (g.2.2.1 0, 40, .inl (fun _ => 0))) :: (qf, .inr (1, [.ref qf0, .ref qf1, .ref qf2, .ref qf3, .ref qf4, .ref qf5, .ref qf6, .ref qf7, .ref qf8, .int 0, .int 0])) :: (q16, .inr (2, [.ref q5, .ref qf, .int 1])) :: ((ss 0), .inl (g.2.2.1 0, 20, .inl (fun j => if j < 20 then z_st 2 j else 0))) :: ((aa 0), .inr (0, [.int 0, .ref (ss 0), .int 1, .null, .int 0, .int 0, .null, .null, .int 0, .null, .int 0, .int 0, .int 0, .int 0, .int 0, .int 0, .int 0, .int 0])) :: (bs, .inl (g.2.2.1 3, 40, .inr (.inr (.inr (.inr F))))) :: (q5, .inr (4, [.ref bs, .ref (aa 0), .int 1, .int 800, .int 600])) :: (a, .inr (5, [.ref q5, .null, .null])) :: (B ++ zbxL g aa ss 39)) 27 [(0, .ref a)] [.ref q16, .ref a]
  refine y_putF (pc := 27) hC hN 5 1 15 rfl rfl inX5 tyX5_ok nmX5 (by decide) zm_1_208 rfl rfl rfl rfl (Nat.le_of_ble_eq_true rfl) dX5_init_27 ?_
  show zI C g 1 93 1939 ((qf8, .inl (g.2.2.1 1, 40, .inl (fun _ => 0))) :: (qf7, .inl (g.2.2.1 0, 40, .inl (fun _ => 0))) :: (qf6, .inl (g.2.2.1 0, 40, .inl (fun _ => 0))) :: (qf5, .inl (g.2.2.1 0, 40, .inl (fun _ => 0))) :: (qf4, .inl (g.2.2.1 0, 40, .inl (fun _ => 0))) :: (qf3, .inl (g.2.2.1 0, 40, .inl (fun _ => 0))) :: (qf2, .inl (g.2.2.1 0, 40, .inl (fun _ => 0))) :: (qf1, .inl (g.2.2.1 0, 40, .inl (fun _ => 0))) :: (qf0, .inl (g.2.2.1 0, 40, .inl (fun _ => 0))) :: (qf, .inr (1, [.ref qf0, .ref qf1, .ref qf2, .ref qf3, .ref qf4, .ref qf5, .ref qf6, .ref qf7, .ref qf8, .int 0, .int 0])) :: (q16, .inr (2, [.ref q5, .ref qf, .int 1])) :: ((ss 0), .inl (g.2.2.1 0, 20, .inl (fun j => if j < 20 then z_st 2 j else 0))) :: ((aa 0), .inr (0, [.int 0, .ref (ss 0), .int 1, .null, .int 0, .int 0, .null, .null, .int 0, .null, .int 0, .int 0, .int 0, .int 0, .int 0, .int 0, .int 0, .int 0])) :: (bs, .inl (g.2.2.1 3, 40, .inr (.inr (.inr (.inr F))))) :: (q5, .inr (4, [.ref bs, .ref (aa 0), .int 1, .int 800, .int 600])) :: (a, .inr (5, [.ref q5, .ref q16, .null])) :: (B ++ zbxL g aa ss 39)) 30 [(0, .ref a)] []
  refine y_aload_n (pc := 30) hC 0 dX5_init_30 rfl rfl z_isr_r ?_
  refine y_iconst (pc := 31) (v := 2) hC dX5_init_31 rfl ?_
  refine y_newq (pc := 32) (N' := 2) hC 4 zm_1_205 hC.2.2.2.2.2.2.1.2 rfl (by decide) (by decide) (Nat.le_of_ble_eq_true rfl) hRm (Nat.le_of_ble_eq_true rfl) (Nat.le_of_ble_eq_true rfl) dX5_init_32 (fun q32 => ?_)
  show zI C g 1 94 1941 ((q32, .inl (g.2.2.1 4, 2, .inr (.inr (.inr (.inr (fun _ => none)))))) :: (qf8, .inl (g.2.2.1 1, 40, .inl (fun _ => 0))) :: (qf7, .inl (g.2.2.1 0, 40, .inl (fun _ => 0))) :: (qf6, .inl (g.2.2.1 0, 40, .inl (fun _ => 0))) :: (qf5, .inl (g.2.2.1 0, 40, .inl (fun _ => 0))) :: (qf4, .inl (g.2.2.1 0, 40, .inl (fun _ => 0))) :: (qf3, .inl (g.2.2.1 0, 40, .inl (fun _ => 0))) :: (qf2, .inl (g.2.2.1 0, 40, .inl (fun _ => 0))) :: (qf1, .inl (g.2.2.1 0, 40, .inl (fun _ => 0))) :: (qf0, .inl (g.2.2.1 0, 40, .inl (fun _ => 0))) :: (qf, .inr (1, [.ref qf0, .ref qf1, .ref qf2, .ref qf3, .ref qf4, .ref qf5, .ref qf6, .ref qf7, .ref qf8, .int 0, .int 0])) :: (q16, .inr (2, [.ref q5, .ref qf, .int 1])) :: ((ss 0), .inl (g.2.2.1 0, 20, .inl (fun j => if j < 20 then z_st 2 j else 0))) :: ((aa 0), .inr (0, [.int 0, .ref (ss 0), .int 1, .null, .int 0, .int 0, .null, .null, .int 0, .null, .int 0, .int 0, .int 0, .int 0, .int 0, .int 0, .int 0, .int 0])) :: (bs, .inl (g.2.2.1 3, 40, .inr (.inr (.inr (.inr F))))) :: (q5, .inr (4, [.ref bs, .ref (aa 0), .int 1, .int 800, .int 600])) :: (a, .inr (5, [.ref q5, .ref q16, .null])) :: (B ++ zbxL g aa ss 39)) 35 [(0, .ref a)] [.ref q32, .ref a]
  refine y_putF (pc := 35) hC hN 5 2 16 rfl rfl inX5 tyX5_ok nmX5 (by decide) zm_1_209 rfl rfl rfl rfl (Nat.le_of_ble_eq_true rfl) dX5_init_35 ?_
  show zI C g 1 94 1941 ((q32, .inl (g.2.2.1 4, 2, .inr (.inr (.inr (.inr (fun _ => none)))))) :: (qf8, .inl (g.2.2.1 1, 40, .inl (fun _ => 0))) :: (qf7, .inl (g.2.2.1 0, 40, .inl (fun _ => 0))) :: (qf6, .inl (g.2.2.1 0, 40, .inl (fun _ => 0))) :: (qf5, .inl (g.2.2.1 0, 40, .inl (fun _ => 0))) :: (qf4, .inl (g.2.2.1 0, 40, .inl (fun _ => 0))) :: (qf3, .inl (g.2.2.1 0, 40, .inl (fun _ => 0))) :: (qf2, .inl (g.2.2.1 0, 40, .inl (fun _ => 0))) :: (qf1, .inl (g.2.2.1 0, 40, .inl (fun _ => 0))) :: (qf0, .inl (g.2.2.1 0, 40, .inl (fun _ => 0))) :: (qf, .inr (1, [.ref qf0, .ref qf1, .ref qf2, .ref qf3, .ref qf4, .ref qf5, .ref qf6, .ref qf7, .ref qf8, .int 0, .int 0])) :: (q16, .inr (2, [.ref q5, .ref qf, .int 1])) :: ((ss 0), .inl (g.2.2.1 0, 20, .inl (fun j => if j < 20 then z_st 2 j else 0))) :: ((aa 0), .inr (0, [.int 0, .ref (ss 0), .int 1, .null, .int 0, .int 0, .null, .null, .int 0, .null, .int 0, .int 0, .int 0, .int 0, .int 0, .int 0, .int 0, .int 0])) :: (bs, .inl (g.2.2.1 3, 40, .inr (.inr (.inr (.inr F))))) :: (q5, .inr (4, [.ref bs, .ref (aa 0), .int 1, .int 800, .int 600])) :: (a, .inr (5, [.ref q5, .ref q16, .ref q32])) :: (B ++ zbxL g aa ss 39)) 38 [(0, .ref a)] []
  exact y_vret (pc := 38) hC hE dX5_init_38 ⟨rfl, q5, q16, q32, qf, qf0, qf1, qf2, qf3, qf4, qf5, qf6, qf7, qf8, bs, aa, ss, F, hF, rfl⟩
end ZCT2
