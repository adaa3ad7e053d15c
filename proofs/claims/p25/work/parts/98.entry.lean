section ZLS
theorem zI_S {C : zC} {g : zG} {nL cells slots pc : Nat} {lv : List (Nat × Value)} {st : List Value} {aa ss : Nat → Nat} {F : Nat → Option Nat} {a5 q5 q16 qf bs q32 qf0 qf1 qf2 qf3 qf4 qf5 qf6 qf7 qf8 r0 r1 r2 r3 r4 : Nat} (hF : ∀ j, F j = if j < 39 + 1 then some (aa j) else none) (k : ∀ f : Nat → Nat, z_gd (f, g.2) 100 → f 80 = a5 → f 95 = r0 → f 96 = r1 → f 97 = r2 → f 98 = r3 → f 99 = r4 → zJ C (f, g.2) 100 nL cells slots zI0 zP0 zJ0 pc lv st) : zI C g nL cells slots (zYs g aa ss F a5 q5 q16 qf bs q32 qf0 qf1 qf2 qf3 qf4 qf5 qf6 qf7 qf8 r0 r1 r2 r3 r4) pc lv st := fun H locs ls hP hD hS hl => k (zsad aa ss [a5, q5, q16, qf, bs, q32, qf0, qf1, qf2, qf3, qf4, qf5, qf6, qf7, qf8, r0, r1, r2, r3, r4]) (zYs_gd hD) rfl rfl rfl rfl rfl rfl H locs ls (zYs_P hF hP) hS hl
theorem zI0_b {b : Nat} (h : b < 40) : zI0 b = fun j => if j = 0 then nI b else if j = 2 then (if b = 0 then 1 else 0) else 0 := if_pos h
theorem zI0_0 {j : Nat} (h0 : j ≠ 0) (h2 : j ≠ 2) : zI0 0 j = 0 := by
  rw [zI0_b (by decide)]
  show (if j = 0 then nI 0 else if j = 2 then (if 0 = 0 then 1 else 0) else 0) = (0 : Int32)
  rw [if_neg h0, if_neg h2]
theorem zs0_tr : zTr zs0 zI0 zP0 := by
  refine ⟨zs0_wf, fun b hb => ?_, fun b hb => ?_, fun b h h0 => absurd (zs0_ex h) h0, rfl, fun b a _ q => (by cases q), fun b k h hk => ?_, rfl, rfl, rfl⟩
  · rw [zI0_b hb]
    rfl
  · rw [zI0_b hb]
    show (if b = 0 then (1 : Int32) else 0) = zB (decide (b = 0))
    by_cases e : b = 0
    · rw [if_pos e, decide_eq_true e]
      rfl
    · rw [if_neg e, decide_eq_false e]
      rfl
  · rw [zs0_ex h]
    show (if k < 20 then z_st 2 k else 0) = z_st 2 k
    rw [if_pos hk]
theorem zs0_cl : zCl zs0 zI0 zP0 := ⟨zs0_tr, ⟨zI0_0 (by decide) (by decide), zI0_0 (by decide) (by decide), zI0_0 (by decide) (by decide)⟩, fun q => absurd q (by decide)⟩
set_option maxHeartbeats 4000000 in
set_option maxRecDepth 100000 in
theorem zLw_start {C : zC} {g : zG} {sa : Nat → Nat} {b L : Nat} {xs : Nat → Int32} (hC : zX0 C cL_law 24 RL (zw0 :: zU) g) (hX : z_KX g sa C.2.2.2.2.1) (hst : C.2.1.stackTraces = false) (hRm : C.2.2.2.1 = room_1) (hx : va_X b L xs C.2.2.2.2.1 C.2.2.2.2.1.heap) (hbs : b < C.2.2.2.2.1.heap.size) (hA : ¬ z_A g b) (hL : L ≤ 260) (hE : zLE C g) : zI C g 24 0 0 [] 0 [(0, .ref b)] [] := by
  refine y_new (pc := 0) (fs := [.null, .null, .null]) hC 5 rfl inX5 tyX5_ok zm_1_13 zm_1_14 zm_1_1 (by intro j hj; rcases (by omega : j = 0 ∨ j = 1 ∨ j = 2) with rfl | rfl | rfl <;> rfl) hRm (Nat.le_of_ble_eq_true rfl) (Nat.le_of_ble_eq_true rfl) dL_law_0 (fun q0 => ?_)
  show zI C g 24 1 3 ((q0, .inr (5, [.null, .null, .null])) :: []) 3 [(0, .ref b)] [.ref q0]
  refine y_dup (pc := 3) hC dL_law_3 rfl ?_
  refine y_callI (pc := 4) (st := [.ref q0]) hC [] (kX5_init C.2.1 g [] q0) zjX5_init zm_1_15 ⟨rfl, rfl⟩ rfl rfl hRm ⟨Nat.le_of_ble_eq_true rfl, Nat.le_of_ble_eq_true rfl⟩ (Nat.le_of_ble_eq_true rfl) ⟨(Nat.le_of_ble_eq_true rfl), (Nat.le_of_ble_eq_true rfl)⟩ dL_law_4 ?_
  intro v Y hR
  obtain ⟨hv, q5, q16, q32, qf, qf0, qf1, qf2, qf3, qf4, qf5, qf6, qf7, qf8, bs, aa, ss, F, hF, hY⟩ := hR
  subst hv
  subst hY
  show zI C g 24 95 1944 ((q32, .inl (g.2.2.1 4, 2, .inr (.inr (.inr (.inr (fun _ => none)))))) :: (qf8, .inl (g.2.2.1 1, 40, .inl (fun _ => 0))) :: (qf7, .inl (g.2.2.1 0, 40, .inl (fun _ => 0))) :: (qf6, .inl (g.2.2.1 0, 40, .inl (fun _ => 0))) :: (qf5, .inl (g.2.2.1 0, 40, .inl (fun _ => 0))) :: (qf4, .inl (g.2.2.1 0, 40, .inl (fun _ => 0))) :: (qf3, .inl (g.2.2.1 0, 40, .inl (fun _ => 0))) :: (qf2, .inl (g.2.2.1 0, 40, .inl (fun _ => 0))) :: (qf1, .inl (g.2.2.1 0, 40, .inl (fun _ => 0))) :: (qf0, .inl (g.2.2.1 0, 40, .inl (fun _ => 0))) :: (qf, .inr (1, [.ref qf0, .ref qf1, .ref qf2, .ref qf3, .ref qf4, .ref qf5, .ref qf6, .ref qf7, .ref qf8, .int 0, .int 0])) :: (q16, .inr (2, [.ref q5, .ref qf, .int 1])) :: (ss 0, .inl (g.2.2.1 0, 20, .inl (fun j => if j < 20 then z_st 2 j else 0))) :: (aa 0, .inr (0, [.int 0, .ref (ss 0), .int 1, .null, .int 0, .int 0, .null, .null, .int 0, .null, .int 0, .int 0, .int 0, .int 0, .int 0, .int 0, .int 0, .int 0])) :: (bs, .inl (g.2.2.1 3, 40, .inr (.inr (.inr (.inr F))))) :: (q5, .inr (4, [.ref bs, .ref (aa 0), .int 1, .int 800, .int 600])) :: (q0, .inr (5, [.ref q5, .ref q16, .ref q32])) :: ([] ++ zbxL g aa ss 39)) 7 [(0, .ref b)] [.ref q0]
  refine y_astore_n (pc := 7) (lv' := [(1, .ref q0), (0, .ref b)]) hC dL_law_7 rfl (by decide) z_isr_r rfl ?_
  refine y_iconst (pc := 8) (v := 1) hC dL_law_8 rfl ?_
  refine y_aload_n (pc := 9) hC 1 dL_law_9 rfl rfl z_isr_r ?_
  refine y_iconst (pc := 10) (v := 0) hC dL_law_10 rfl ?_
  refine y_bipush (pc := 11) (v := 6) hC dL_law_11 rfl ?_
  refine y_cell (pc := 13) (st := [.int 1]) hC hx hbs hA hL hRm (by decide) (by decide) ⟨Nat.le_of_ble_eq_true rfl, Nat.le_of_ble_eq_true rfl⟩ (Nat.le_of_ble_eq_true rfl) dL_law_13 (fun v13 u13 t13 => ?_)
  rw [show (6 : Int32).toInt = 6 from rfl] at t13
  refine y_iadd (pc := 16) hC dL_law_16 ?_
  obtain ⟨m, h1, h2, em⟩ := z1_nI u13 t13
  refine y_eqI em ?_
  refine y_istore_n (pc := 17) (lv' := [(2, .int (nI m)), (1, .ref q0), (0, .ref b)]) hC dL_law_17 rfl (by decide) rfl ?_
  refine y_aload_n (pc := 18) hC 2 dL_law_18 rfl rfl z_isr_r ?_
  refine y_iconst (pc := 19) (v := 1) hC dL_law_19 rfl ?_
  refine y_sipush (pc := 20) (v := 1200) hC dL_law_20 rfl ?_
  refine y_cell (pc := 23) (st := []) hC hx hbs hA hL hRm (by decide) (by decide) ⟨Nat.le_of_ble_eq_true rfl, Nat.le_of_ble_eq_true rfl⟩ (Nat.le_of_ble_eq_true rfl) dL_law_23 (fun v23 u23 t23 => ?_)
  rw [show (1200 : Int32).toInt = 1200 from rfl] at t23
  refine y_istore_n (pc := 26) (lv' := [(3, .int v23), (2, .int (nI m)), (1, .ref q0), (0, .ref b)]) hC dL_law_26 rfl (by decide) rfl ?_
  refine y_aload_n (pc := 27) hC 3 dL_law_27 rfl rfl z_isr_r ?_
  refine y_iconst (pc := 28) (v := 2) hC dL_law_28 rfl ?_
  refine y_bipush (pc := 29) (v := 20) hC dL_law_29 rfl ?_
  refine y_cell (pc := 31) (st := []) hC hx hbs hA hL hRm (by decide) (by decide) ⟨Nat.le_of_ble_eq_true rfl, Nat.le_of_ble_eq_true rfl⟩ (Nat.le_of_ble_eq_true rfl) dL_law_31 (fun v31 u31 t31 => ?_)
  rw [show (20 : Int32).toInt = 20 from rfl] at t31
  refine y_istore (pc := 34) (lv' := [(4, .int v31), (3, .int v23), (2, .int (nI m)), (1, .ref q0), (0, .ref b)]) hC dL_law_34 (by decide) rfl ?_
  refine y_aload_n (pc := 36) hC 4 dL_law_36 rfl rfl z_isr_r ?_
  refine y_iconst (pc := 37) (v := 3) hC dL_law_37 rfl ?_
  refine y_bipush (pc := 38) (v := 20) hC dL_law_38 rfl ?_
  refine y_cell (pc := 40) (st := []) hC hx hbs hA hL hRm (by decide) (by decide) ⟨Nat.le_of_ble_eq_true rfl, Nat.le_of_ble_eq_true rfl⟩ (Nat.le_of_ble_eq_true rfl) dL_law_40 (fun v40 u40 t40 => ?_)
  rw [show (20 : Int32).toInt = 20 from rfl] at t40
  refine y_istore (pc := 43) (lv' := [(5, .int v40), (4, .int v31), (3, .int v23), (2, .int (nI m)), (1, .ref q0), (0, .ref b)]) hC dL_law_43 (by decide) rfl ?_
  refine y_bipush (pc := 45) (v := 6) hC dL_law_45 rfl ?_
  refine y_newa (pc := 47) (atype := .int) (N' := 6) (z := .inl (fun _ => 0)) hC 0 zm_1_119 rfl rfl (fun _ => rfl) (by decide) (by decide) (Nat.le_of_ble_eq_true rfl) hRm (Nat.le_of_ble_eq_true rfl) (Nat.le_of_ble_eq_true rfl) dL_law_47 (fun r0 => ?_)
  show zI C g 24 96 1950 ((r0, .inl (g.2.2.1 0, 6, .inl (fun _ => 0))) :: (q32, .inl (g.2.2.1 4, 2, .inr (.inr (.inr (.inr (fun _ => none)))))) :: (qf8, .inl (g.2.2.1 1, 40, .inl (fun _ => 0))) :: (qf7, .inl (g.2.2.1 0, 40, .inl (fun _ => 0))) :: (qf6, .inl (g.2.2.1 0, 40, .inl (fun _ => 0))) :: (qf5, .inl (g.2.2.1 0, 40, .inl (fun _ => 0))) :: (qf4, .inl (g.2.2.1 0, 40, .inl (fun _ => 0))) :: (qf3, .inl (g.2.2.1 0, 40, .inl (fun _ => 0))) :: (qf2, .inl (g.2.2.1 0, 40, .inl (fun _ => 0))) :: (qf1, .inl (g.2.2.1 0, 40, .inl (fun _ => 0))) :: (qf0, .inl (g.2.2.1 0, 40, .inl (fun _ => 0))) :: (qf, .inr (1, [.ref qf0, .ref qf1, .ref qf2, .ref qf3, .ref qf4, .ref qf5, .ref qf6, .ref qf7, .ref qf8, .int 0, .int 0])) :: (q16, .inr (2, [.ref q5, .ref qf, .int 1])) :: (ss 0, .inl (g.2.2.1 0, 20, .inl (fun j => if j < 20 then z_st 2 j else 0))) :: (aa 0, .inr (0, [.int 0, .ref (ss 0), .int 1, .null, .int 0, .int 0, .null, .null, .int 0, .null, .int 0, .int 0, .int 0, .int 0, .int 0, .int 0, .int 0, .int 0])) :: (bs, .inl (g.2.2.1 3, 40, .inr (.inr (.inr (.inr F))))) :: (q5, .inr (4, [.ref bs, .ref (aa 0), .int 1, .int 800, .int 600])) :: (q0, .inr (5, [.ref q5, .ref q16, .ref q32])) :: ([] ++ zbxL g aa ss 39)) 49 [(5, .int v40), (4, .int v31), (3, .int v23), (2, .int (nI m)), (1, .ref q0), (0, .ref b)] [.ref r0]
  refine y_astore (pc := 49) (lv' := [(6, .ref r0), (5, .int v40), (4, .int v31), (3, .int v23), (2, .int (nI m)), (1, .ref q0), (0, .ref b)]) hC dL_law_49 (by decide) z_isr_r rfl ?_
  refine y_bipush (pc := 51) (v := 6) hC dL_law_51 rfl ?_
  refine y_newa (pc := 53) (atype := .int) (N' := 6) (z := .inl (fun _ => 0)) hC 0 zm_1_119 rfl rfl (fun _ => rfl) (by decide) (by decide) (Nat.le_of_ble_eq_true rfl) hRm (Nat.le_of_ble_eq_true rfl) (Nat.le_of_ble_eq_true rfl) dL_law_53 (fun r1 => ?_)
  show zI C g 24 97 1956 ((r1, .inl (g.2.2.1 0, 6, .inl (fun _ => 0))) :: (r0, .inl (g.2.2.1 0, 6, .inl (fun _ => 0))) :: (q32, .inl (g.2.2.1 4, 2, .inr (.inr (.inr (.inr (fun _ => none)))))) :: (qf8, .inl (g.2.2.1 1, 40, .inl (fun _ => 0))) :: (qf7, .inl (g.2.2.1 0, 40, .inl (fun _ => 0))) :: (qf6, .inl (g.2.2.1 0, 40, .inl (fun _ => 0))) :: (qf5, .inl (g.2.2.1 0, 40, .inl (fun _ => 0))) :: (qf4, .inl (g.2.2.1 0, 40, .inl (fun _ => 0))) :: (qf3, .inl (g.2.2.1 0, 40, .inl (fun _ => 0))) :: (qf2, .inl (g.2.2.1 0, 40, .inl (fun _ => 0))) :: (qf1, .inl (g.2.2.1 0, 40, .inl (fun _ => 0))) :: (qf0, .inl (g.2.2.1 0, 40, .inl (fun _ => 0))) :: (qf, .inr (1, [.ref qf0, .ref qf1, .ref qf2, .ref qf3, .ref qf4, .ref qf5, .ref qf6, .ref qf7, .ref qf8, .int 0, .int 0])) :: (q16, .inr (2, [.ref q5, .ref qf, .int 1])) :: (ss 0, .inl (g.2.2.1 0, 20, .inl (fun j => if j < 20 then z_st 2 j else 0))) :: (aa 0, .inr (0, [.int 0, .ref (ss 0), .int 1, .null, .int 0, .int 0, .null, .null, .int 0, .null, .int 0, .int 0, .int 0, .int 0, .int 0, .int 0, .int 0, .int 0])) :: (bs, .inl (g.2.2.1 3, 40, .inr (.inr (.inr (.inr F))))) :: (q5, .inr (4, [.ref bs, .ref (aa 0), .int 1, .int 800, .int 600])) :: (q0, .inr (5, [.ref q5, .ref q16, .ref q32])) :: ([] ++ zbxL g aa ss 39)) 55 [(6, .ref r0), (5, .int v40), (4, .int v31), (3, .int v23), (2, .int (nI m)), (1, .ref q0), (0, .ref b)] [.ref r1]
  refine y_astore (pc := 55) (lv' := [(7, .ref r1), (6, .ref r0), (5, .int v40), (4, .int v31), (3, .int v23), (2, .int (nI m)), (1, .ref q0), (0, .ref b)]) hC dL_law_55 (by decide) z_isr_r rfl ?_
  refine y_bipush (pc := 57) (v := 6) hC dL_law_57 rfl ?_
  refine y_newa (pc := 59) (atype := .int) (N' := 6) (z := .inl (fun _ => 0)) hC 0 zm_1_119 rfl rfl (fun _ => rfl) (by decide) (by decide) (Nat.le_of_ble_eq_true rfl) hRm (Nat.le_of_ble_eq_true rfl) (Nat.le_of_ble_eq_true rfl) dL_law_59 (fun r2 => ?_)
  show zI C g 24 98 1962 ((r2, .inl (g.2.2.1 0, 6, .inl (fun _ => 0))) :: (r1, .inl (g.2.2.1 0, 6, .inl (fun _ => 0))) :: (r0, .inl (g.2.2.1 0, 6, .inl (fun _ => 0))) :: (q32, .inl (g.2.2.1 4, 2, .inr (.inr (.inr (.inr (fun _ => none)))))) :: (qf8, .inl (g.2.2.1 1, 40, .inl (fun _ => 0))) :: (qf7, .inl (g.2.2.1 0, 40, .inl (fun _ => 0))) :: (qf6, .inl (g.2.2.1 0, 40, .inl (fun _ => 0))) :: (qf5, .inl (g.2.2.1 0, 40, .inl (fun _ => 0))) :: (qf4, .inl (g.2.2.1 0, 40, .inl (fun _ => 0))) :: (qf3, .inl (g.2.2.1 0, 40, .inl (fun _ => 0))) :: (qf2, .inl (g.2.2.1 0, 40, .inl (fun _ => 0))) :: (qf1, .inl (g.2.2.1 0, 40, .inl (fun _ => 0))) :: (qf0, .inl (g.2.2.1 0, 40, .inl (fun _ => 0))) :: (qf, .inr (1, [.ref qf0, .ref qf1, .ref qf2, .ref qf3, .ref qf4, .ref qf5, .ref qf6, .ref qf7, .ref qf8, .int 0, .int 0])) :: (q16, .inr (2, [.ref q5, .ref qf, .int 1])) :: (ss 0, .inl (g.2.2.1 0, 20, .inl (fun j => if j < 20 then z_st 2 j else 0))) :: (aa 0, .inr (0, [.int 0, .ref (ss 0), .int 1, .null, .int 0, .int 0, .null, .null, .int 0, .null, .int 0, .int 0, .int 0, .int 0, .int 0, .int 0, .int 0, .int 0])) :: (bs, .inl (g.2.2.1 3, 40, .inr (.inr (.inr (.inr F))))) :: (q5, .inr (4, [.ref bs, .ref (aa 0), .int 1, .int 800, .int 600])) :: (q0, .inr (5, [.ref q5, .ref q16, .ref q32])) :: ([] ++ zbxL g aa ss 39)) 61 [(7, .ref r1), (6, .ref r0), (5, .int v40), (4, .int v31), (3, .int v23), (2, .int (nI m)), (1, .ref q0), (0, .ref b)] [.ref r2]
  refine y_astore (pc := 61) (lv' := [(8, .ref r2), (7, .ref r1), (6, .ref r0), (5, .int v40), (4, .int v31), (3, .int v23), (2, .int (nI m)), (1, .ref q0), (0, .ref b)]) hC dL_law_61 (by decide) z_isr_r rfl ?_
  refine y_bipush (pc := 63) (v := 6) hC dL_law_63 rfl ?_
  refine y_newa (pc := 65) (atype := .int) (N' := 6) (z := .inl (fun _ => 0)) hC 0 zm_1_119 rfl rfl (fun _ => rfl) (by decide) (by decide) (Nat.le_of_ble_eq_true rfl) hRm (Nat.le_of_ble_eq_true rfl) (Nat.le_of_ble_eq_true rfl) dL_law_65 (fun r3 => ?_)
  show zI C g 24 99 1968 ((r3, .inl (g.2.2.1 0, 6, .inl (fun _ => 0))) :: (r2, .inl (g.2.2.1 0, 6, .inl (fun _ => 0))) :: (r1, .inl (g.2.2.1 0, 6, .inl (fun _ => 0))) :: (r0, .inl (g.2.2.1 0, 6, .inl (fun _ => 0))) :: (q32, .inl (g.2.2.1 4, 2, .inr (.inr (.inr (.inr (fun _ => none)))))) :: (qf8, .inl (g.2.2.1 1, 40, .inl (fun _ => 0))) :: (qf7, .inl (g.2.2.1 0, 40, .inl (fun _ => 0))) :: (qf6, .inl (g.2.2.1 0, 40, .inl (fun _ => 0))) :: (qf5, .inl (g.2.2.1 0, 40, .inl (fun _ => 0))) :: (qf4, .inl (g.2.2.1 0, 40, .inl (fun _ => 0))) :: (qf3, .inl (g.2.2.1 0, 40, .inl (fun _ => 0))) :: (qf2, .inl (g.2.2.1 0, 40, .inl (fun _ => 0))) :: (qf1, .inl (g.2.2.1 0, 40, .inl (fun _ => 0))) :: (qf0, .inl (g.2.2.1 0, 40, .inl (fun _ => 0))) :: (qf, .inr (1, [.ref qf0, .ref qf1, .ref qf2, .ref qf3, .ref qf4, .ref qf5, .ref qf6, .ref qf7, .ref qf8, .int 0, .int 0])) :: (q16, .inr (2, [.ref q5, .ref qf, .int 1])) :: (ss 0, .inl (g.2.2.1 0, 20, .inl (fun j => if j < 20 then z_st 2 j else 0))) :: (aa 0, .inr (0, [.int 0, .ref (ss 0), .int 1, .null, .int 0, .int 0, .null, .null, .int 0, .null, .int 0, .int 0, .int 0, .int 0, .int 0, .int 0, .int 0, .int 0])) :: (bs, .inl (g.2.2.1 3, 40, .inr (.inr (.inr (.inr F))))) :: (q5, .inr (4, [.ref bs, .ref (aa 0), .int 1, .int 800, .int 600])) :: (q0, .inr (5, [.ref q5, .ref q16, .ref q32])) :: ([] ++ zbxL g aa ss 39)) 67 [(8, .ref r2), (7, .ref r1), (6, .ref r0), (5, .int v40), (4, .int v31), (3, .int v23), (2, .int (nI m)), (1, .ref q0), (0, .ref b)] [.ref r3]
  refine y_astore (pc := 67) (lv' := [(9, .ref r3), (8, .ref r2), (7, .ref r1), (6, .ref r0), (5, .int v40), (4, .int v31), (3, .int v23), (2, .int (nI m)), (1, .ref q0), (0, .ref b)]) hC dL_law_67 (by decide) z_isr_r rfl ?_
  refine y_bipush (pc := 69) (v := 6) hC dL_law_69 rfl ?_
  refine y_newa (pc := 71) (atype := .int) (N' := 6) (z := .inl (fun _ => 0)) hC 0 zm_1_119 rfl rfl (fun _ => rfl) (by decide) (by decide) (Nat.le_of_ble_eq_true rfl) hRm (Nat.le_of_ble_eq_true rfl) (Nat.le_of_ble_eq_true rfl) dL_law_71 (fun r4 => ?_)
  show zI C g 24 100 1974 ((r4, .inl (g.2.2.1 0, 6, .inl (fun _ => 0))) :: (r3, .inl (g.2.2.1 0, 6, .inl (fun _ => 0))) :: (r2, .inl (g.2.2.1 0, 6, .inl (fun _ => 0))) :: (r1, .inl (g.2.2.1 0, 6, .inl (fun _ => 0))) :: (r0, .inl (g.2.2.1 0, 6, .inl (fun _ => 0))) :: (q32, .inl (g.2.2.1 4, 2, .inr (.inr (.inr (.inr (fun _ => none)))))) :: (qf8, .inl (g.2.2.1 1, 40, .inl (fun _ => 0))) :: (qf7, .inl (g.2.2.1 0, 40, .inl (fun _ => 0))) :: (qf6, .inl (g.2.2.1 0, 40, .inl (fun _ => 0))) :: (qf5, .inl (g.2.2.1 0, 40, .inl (fun _ => 0))) :: (qf4, .inl (g.2.2.1 0, 40, .inl (fun _ => 0))) :: (qf3, .inl (g.2.2.1 0, 40, .inl (fun _ => 0))) :: (qf2, .inl (g.2.2.1 0, 40, .inl (fun _ => 0))) :: (qf1, .inl (g.2.2.1 0, 40, .inl (fun _ => 0))) :: (qf0, .inl (g.2.2.1 0, 40, .inl (fun _ => 0))) :: (qf, .inr (1, [.ref qf0, .ref qf1, .ref qf2, .ref qf3, .ref qf4, .ref qf5, .ref qf6, .ref qf7, .ref qf8, .int 0, .int 0])) :: (q16, .inr (2, [.ref q5, .ref qf, .int 1])) :: (ss 0, .inl (g.2.2.1 0, 20, .inl (fun j => if j < 20 then z_st 2 j else 0))) :: (aa 0, .inr (0, [.int 0, .ref (ss 0), .int 1, .null, .int 0, .int 0, .null, .null, .int 0, .null, .int 0, .int 0, .int 0, .int 0, .int 0, .int 0, .int 0, .int 0])) :: (bs, .inl (g.2.2.1 3, 40, .inr (.inr (.inr (.inr F))))) :: (q5, .inr (4, [.ref bs, .ref (aa 0), .int 1, .int 800, .int 600])) :: (q0, .inr (5, [.ref q5, .ref q16, .ref q32])) :: ([] ++ zbxL g aa ss 39)) 73 [(9, .ref r3), (8, .ref r2), (7, .ref r1), (6, .ref r0), (5, .int v40), (4, .int v31), (3, .int v23), (2, .int (nI m)), (1, .ref q0), (0, .ref b)] [.ref r4]
  refine y_astore (pc := 73) (lv' := [(10, .ref r4), (9, .ref r3), (8, .ref r2), (7, .ref r1), (6, .ref r0), (5, .int v40), (4, .int v31), (3, .int v23), (2, .int (nI m)), (1, .ref q0), (0, .ref b)]) hC dL_law_73 (by decide) z_isr_r rfl ?_
  show zI C g 24 100 1974 (zYs g aa ss F q0 q5 q16 qf bs q32 qf0 qf1 qf2 qf3 qf4 qf5 qf6 qf7 qf8 r0 r1 r2 r3 r4) 75 [(10, .ref r4), (9, .ref r3), (8, .ref r2), (7, .ref r1), (6, .ref r0), (5, .int v40), (4, .int v31), (3, .int v23), (2, .int (nI m)), (1, .ref q0), (0, .ref b)] []
  refine zI_S hF (fun f hG e80 e95 e96 e97 e98 e99 => ?_)
  rw [← e80, ← e95, ← e96, ← e97, ← e98, ← e99]
  refine z_lvs (lv' := [(0, .ref b), (1, .ref (f 80)), (2, .int (nI m)), (3, .int v23), (4, .int v31), (5, .int v40), (6, .ref (f 95)), (7, .ref (f 96)), (8, .ref (f 97)), (9, .ref (f 98)), (10, .ref (f 99))]) [10, 9, 8, 7, 6, 5, 4, 3, 2, 1, 0] rfl ?_
  exact zLw_75 (g := (f, g.2)) ⟨⟨hC.1, hC.2.1, hC.2.2.1, hC.2.2.2.1, hC.2.2.2.2.1, hC.2.2.2.2.2.1, hG⟩, hX, hst, hRm, hx, hbs, hA, hL⟩ hE h1 h2 ⟨u23, t23⟩ ⟨u31, t31⟩ ⟨u40, t40⟩ 100 1974 zI0 zP0 zJ0 (by decide) (by decide) zs0_cl
end ZLS
