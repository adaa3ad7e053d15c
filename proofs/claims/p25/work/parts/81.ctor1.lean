section ZCT1
theorem zjX0_init : z_pkI yX0_init cX0_init 2 1 := ⟨zm_1_31, zm_1_3, zm_1_32, rfl, by decide, by decide, by decide +kernel⟩
theorem zjX1_init : z_pkI yX1_init cX1_init 1 0 := ⟨zm_1_156, zm_1_5, zm_1_157, rfl, by decide, by decide, by decide +kernel⟩
theorem zjX2_init : z_pkI yX2_init cX2_init 2 1 := ⟨zm_1_150, zm_1_4, zm_1_151, rfl, by decide, by decide, by decide +kernel⟩
theorem zjX4_init : z_pkI yX4_init cX4_init 2 0 := ⟨zm_1_24, zm_1_2, zm_1_25, rfl, by decide, by decide, by decide +kernel⟩
theorem zjX5_init : z_pkI yX5_init cX5_init 1 0 := ⟨zm_1_16, zm_1_1, zm_1_17, rfl, by decide, by decide, by decide +kernel⟩
set_option maxHeartbeats 4000000 in
set_option maxRecDepth 100000 in
theorem kX0_init (lx : Launch) (g : zG) (B : va_W) (a : Nat) (n : Int32) : z_CtI lx yX0_init (zT yX0_init cX0_init 2 (Option.none : Option FieldType)) ({ frames := 1, cells := 1, slots := 20, locals := 20 } : Room) g [.ref a, .int n] ((a, .inr (0, [.int 0, .null, .int 0, .null, .int 0, .int 0, .null, .null, .int 0, .null, .int 0, .int 0, .int 0, .int 0, .int 0, .int 0, .int 0, .int 0])) :: B) (fun v Y => v = none ∧ ∃ q : Nat, Y = (q, .inl (g.2.2.1 0, 20, .inl (fun _ => 0))) :: (a, .inr (0, [.int n, .ref q, .int 0, .null, .int 0, .int 0, .null, .null, .int 0, .null, .int 0, .int 0, .int 0, .int 0, .int 0, .int 0, .int 0, .int 0])) :: B) 1 20 := by
  refine y_of (by decide) (Nat.le_of_ble_eq_true rfl) (lv0 := [(0, .ref a), (1, .int n)]) rfl ?_
  intro C hlx hC hE hRm hN0
  have hC : zX0 C cX0_init 2 RX0 (zT yX0_init cX0_init 2 (Option.none : Option FieldType)) g := hC
  have hN : C.2.2.2.2.2.2.2.2.1.name = "<init>" := hN0
  refine y_aload_n (pc := 0) hC 0 dX0_init_0 rfl rfl z_isr_r ?_
  refine y_obj (pc := 1) hC zm_1_33 zm_1_19 zm_1_20 hRm (Nat.le_of_ble_eq_true rfl) (Nat.le_of_ble_eq_true rfl) dX0_init_1 ?_
  refine y_aload_n (pc := 4) hC 0 dX0_init_4 rfl rfl z_isr_r ?_
  refine y_bipush (pc := 5) (v := 20) hC dX0_init_5 rfl ?_
  refine y_newa (pc := 7) (atype := .int) (N' := 20) (z := .inl (fun _ => 0)) hC 0 zm_1_119 rfl rfl (fun _ => rfl) (by decide) (by decide) (Nat.le_of_ble_eq_true rfl) hRm (Nat.le_of_ble_eq_true rfl) (Nat.le_of_ble_eq_true rfl) dX0_init_7 (fun q7 => ?_)
  show zI C g 2 1 20 ((q7, .inl (g.2.2.1 0, 20, .inl (fun _ => 0))) :: (a, .inr (0, [.int 0, .null, .int 0, .null, .int 0, .int 0, .null, .null, .int 0, .null, .int 0, .int 0, .int 0, .int 0, .int 0, .int 0, .int 0, .int 0])) :: B) 9 [(0, .ref a), (1, .int n)] [.ref q7, .ref a]
  refine y_putF (pc := 9) hC hN 0 1 1 rfl rfl inX0 tyX0_ok nmX0 (by decide) zm_1_38 rfl rfl rfl rfl (Nat.le_of_ble_eq_true rfl) dX0_init_9 ?_
  show zI C g 2 1 20 ((q7, .inl (g.2.2.1 0, 20, .inl (fun _ => 0))) :: (a, .inr (0, [.int 0, .ref q7, .int 0, .null, .int 0, .int 0, .null, .null, .int 0, .null, .int 0, .int 0, .int 0, .int 0, .int 0, .int 0, .int 0, .int 0])) :: B) 12 [(0, .ref a), (1, .int n)] []
  refine y_aload_n (pc := 12) hC 0 dX0_init_12 rfl rfl z_isr_r ?_
  refine y_iload_n (pc := 13) hC 1 dX0_init_13 rfl rfl ?_
  refine y_putF (pc := 14) hC hN 0 0 1 rfl rfl inX0 tyX0_ok nmX0 (by decide) zm_1_34 rfl rfl rfl rfl (Nat.le_of_ble_eq_true rfl) dX0_init_14 ?_
  show zI C g 2 1 20 ((q7, .inl (g.2.2.1 0, 20, .inl (fun _ => 0))) :: (a, .inr (0, [.int n, .ref q7, .int 0, .null, .int 0, .int 0, .null, .null, .int 0, .null, .int 0, .int 0, .int 0, .int 0, .int 0, .int 0, .int 0, .int 0])) :: B) 17 [(0, .ref a), (1, .int n)] []
  exact y_vret (pc := 17) hC hE dX0_init_17 ⟨rfl, q7, rfl⟩
set_option maxHeartbeats 4000000 in
set_option maxRecDepth 100000 in
theorem kX1_init (lx : Launch) (g : zG) (B : va_W) (a : Nat) : z_CtI lx yX1_init (zT yX1_init cX1_init 1 (Option.none : Option FieldType)) ({ frames := 1, cells := 9, slots := 360, locals := 20 } : Room) g [.ref a] ((a, .inr (1, [.null, .null, .null, .null, .null, .null, .null, .null, .null, .int 0, .int 0])) :: B) (fun v Y => v = none ∧ ∃ q7 q15 q23 q31 q39 q47 q55 q63 q71 : Nat, Y = (q71, .inl (g.2.2.1 1, 40, .inl (fun _ => 0))) :: (q63, .inl (g.2.2.1 0, 40, .inl (fun _ => 0))) :: (q55, .inl (g.2.2.1 0, 40, .inl (fun _ => 0))) :: (q47, .inl (g.2.2.1 0, 40, .inl (fun _ => 0))) :: (q39, .inl (g.2.2.1 0, 40, .inl (fun _ => 0))) :: (q31, .inl (g.2.2.1 0, 40, .inl (fun _ => 0))) :: (q23, .inl (g.2.2.1 0, 40, .inl (fun _ => 0))) :: (q15, .inl (g.2.2.1 0, 40, .inl (fun _ => 0))) :: (q7, .inl (g.2.2.1 0, 40, .inl (fun _ => 0))) :: (a, .inr (1, [.ref q7, .ref q15, .ref q23, .ref q31, .ref q39, .ref q47, .ref q55, .ref q63, .ref q71, .int 0, .int 0])) :: B) 9 360 := by
  refine y_of (by decide) (Nat.le_of_ble_eq_true rfl) (lv0 := [(0, .ref a)]) rfl ?_
  intro C hlx hC hE hRm hN0
  have hC : zX0 C cX1_init 1 RX1 (zT yX1_init cX1_init 1 (Option.none : Option FieldType)) g := hC
  have hN : C.2.2.2.2.2.2.2.2.1.name = "<init>" := hN0
  refine y_aload_n (pc := 0) hC 0 dX1_init_0 rfl rfl z_isr_r ?_
  refine y_obj (pc := 1) hC zm_1_158 zm_1_19 zm_1_20 hRm (Nat.le_of_ble_eq_true rfl) (Nat.le_of_ble_eq_true rfl) dX1_init_1 ?_
  refine y_aload_n (pc := 4) hC 0 dX1_init_4 rfl rfl z_isr_r ?_
  refine y_bipush (pc := 5) (v := 40) hC dX1_init_5 rfl ?_
  refine y_newa (pc := 7) (atype := .int) (N' := 40) (z := .inl (fun _ => 0)) hC 0 zm_1_119 rfl rfl (fun _ => rfl) (by decide) (by decide) (Nat.le_of_ble_eq_true rfl) hRm (Nat.le_of_ble_eq_true rfl) (Nat.le_of_ble_eq_true rfl) dX1_init_7 (fun q7 => ?_)
  show zI C g 1 1 40 ((q7, .inl (g.2.2.1 0, 40, .inl (fun _ => 0))) :: (a, .inr (1, [.null, .null, .null, .null, .null, .null, .null, .null, .null, .int 0, .int 0])) :: B) 9 [(0, .ref a)] [.ref q7, .ref a]
  refine y_putF (pc := 9) hC hN 1 0 1 rfl rfl inX1 tyX1_ok nmX1 (by decide) zm_1_159 rfl rfl rfl rfl (Nat.le_of_ble_eq_true rfl) dX1_init_9 ?_
  show zI C g 1 1 40 ((q7, .inl (g.2.2.1 0, 40, .inl (fun _ => 0))) :: (a, .inr (1, [.ref q7, .null, .null, .null, .null, .null, .null, .null, .null, .int 0, .int 0])) :: B) 12 [(0, .ref a)] []
  refine y_aload_n (pc := 12) hC 0 dX1_init_12 rfl rfl z_isr_r ?_
  refine y_bipush (pc := 13) (v := 40) hC dX1_init_13 rfl ?_
  refine y_newa (pc := 15) (atype := .int) (N' := 40) (z := .inl (fun _ => 0)) hC 0 zm_1_119 rfl rfl (fun _ => rfl) (by decide) (by decide) (Nat.le_of_ble_eq_true rfl) hRm (Nat.le_of_ble_eq_true rfl) (Nat.le_of_ble_eq_true rfl) dX1_init_15 (fun q15 => ?_)
  show zI C g 1 2 80 ((q15, .inl (g.2.2.1 0, 40, .inl (fun _ => 0))) :: (q7, .inl (g.2.2.1 0, 40, .inl (fun _ => 0))) :: (a, .inr (1, [.ref q7, .null, .null, .null, .null, .null, .null, .null, .null, .int 0, .int 0])) :: B) 17 [(0, .ref a)] [.ref q15, .ref a]
  refine y_putF (pc := 17) hC hN 1 1 2 rfl rfl inX1 tyX1_ok nmX1 (by decide) zm_1_160 rfl rfl rfl rfl (Nat.le_of_ble_eq_true rfl) dX1_init_17 ?_
  show zI C g 1 2 80 ((q15, .inl (g.2.2.1 0, 40, .inl (fun _ => 0))) :: (q7, .inl (g.2.2.1 0, 40, .inl (fun _ => 0))) :: (a, .inr (1, [.ref q7, .ref q15, .null, .null, .null, .null, .null, .null, .null, .int 0, .int 0])) :: B) 20 [(0, .ref a)] []
  refine y_aload_n (pc := 20) hC 0 dX1_init_20 rfl rfl z_isr_r ?_
  refine y_bipush (pc := 21) (v := 40) hC dX1_init_21 rfl ?_
  refine y_newa (pc := 23) (atype := .int) (N' := 40) (z := .inl (fun _ => 0)) hC 0 zm_1_119 rfl rfl (fun _ => rfl) (by decide) (by decide) (Nat.le_of_ble_eq_true rfl) hRm (Nat.le_of_ble_eq_true rfl) (Nat.le_of_ble_eq_true rfl) dX1_init_23 (fun q23 => ?_)
  show zI C g 1 3 120 ((q23, .inl (g.2.2.1 0, 40, .inl (fun _ => 0))) :: (q15, .inl (g.2.2.1 0, 40, .inl (fun _ => 0))) :: (q7, .inl (g.2.2.1 0, 40, .inl (fun _ => 0))) :: (a, .inr (1, [.ref q7, .ref q15, .null, .null, .null, .null, .null, .null, .null, .int 0, .int 0])) :: B) 25 [(0, .ref a)] [.ref q23, .ref a]
  refine y_putF (pc := 25) hC hN 1 2 3 rfl rfl inX1 tyX1_ok nmX1 (by decide) zm_1_161 rfl rfl rfl rfl (Nat.le_of_ble_eq_true rfl) dX1_init_25 ?_
  show zI C g 1 3 120 ((q23, .inl (g.2.2.1 0, 40, .inl (fun _ => 0))) :: (q15, .inl (g.2.2.1 0, 40, .inl (fun _ => 0))) :: (q7, .inl (g.2.2.1 0, 40, .inl (fun _ => 0))) :: (a, .inr (1, [.ref q7, .ref q15, .ref q23, .null, .null, .null, .null, .null, .null, .int 0, .int 0])) :: B) 28 [(0, .ref a)] []
  refine y_aload_n (pc := 28) hC 0 dX1_init_28 rfl rfl z_isr_r ?_
  refine y_bipush (pc := 29) (v := 40) hC dX1_init_29 rfl ?_
  refine y_newa (pc := 31) (atype := .int) (N' := 40) (z := .inl (fun _ => 0)) hC 0 zm_1_119 rfl rfl (fun _ => rfl) (by decide) (by decide) (Nat.le_of_ble_eq_true rfl) hRm (Nat.le_of_ble_eq_true rfl) (Nat.le_of_ble_eq_true rfl) dX1_init_31 (fun q31 => ?_)
  show zI C g 1 4 160 ((q31, .inl (g.2.2.1 0, 40, .inl (fun _ => 0))) :: (q23, .inl (g.2.2.1 0, 40, .inl (fun _ => 0))) :: (q15, .inl (g.2.2.1 0, 40, .inl (fun _ => 0))) :: (q7, .inl (g.2.2.1 0, 40, .inl (fun _ => 0))) :: (a, .inr (1, [.ref q7, .ref q15, .ref q23, .null, .null, .null, .null, .null, .null, .int 0, .int 0])) :: B) 33 [(0, .ref a)] [.ref q31, .ref a]
  refine y_putF (pc := 33) hC hN 1 3 4 rfl rfl inX1 tyX1_ok nmX1 (by decide) zm_1_162 rfl rfl rfl rfl (Nat.le_of_ble_eq_true rfl) dX1_init_33 ?_
  show zI C g 1 4 160 ((q31, .inl (g.2.2.1 0, 40, .inl (fun _ => 0))) :: (q23, .inl (g.2.2.1 0, 40, .inl (fun _ => 0))) :: (q15, .inl (g.2.2.1 0, 40, .inl (fun _ => 0))) :: (q7, .inl (g.2.2.1 0, 40, .inl (fun _ => 0))) :: (a, .inr (1, [.ref q7, .ref q15, .ref q23, .ref q31, .null, .null, .null, .null, .null, .int 0, .int 0])) :: B) 36 [(0, .ref a)] []
  refine y_aload_n (pc := 36) hC 0 dX1_init_36 rfl rfl z_isr_r ?_
  refine y_bipush (pc := 37) (v := 40) hC dX1_init_37 rfl ?_
  refine y_newa (pc := 39) (atype := .int) (N' := 40) (z := .inl (fun _ => 0)) hC 0 zm_1_119 rfl rfl (fun _ => rfl) (by decide) (by decide) (Nat.le_of_ble_eq_true rfl) hRm (Nat.le_of_ble_eq_true rfl) (Nat.le_of_ble_eq_true rfl) dX1_init_39 (fun q39 => ?_)
  show zI C g 1 5 200 ((q39, .inl (g.2.2.1 0, 40, .inl (fun _ => 0))) :: (q31, .inl (g.2.2.1 0, 40, .inl (fun _ => 0))) :: (q23, .inl (g.2.2.1 0, 40, .inl (fun _ => 0))) :: (q15, .inl (g.2.2.1 0, 40, .inl (fun _ => 0))) :: (q7, .inl (g.2.2.1 0, 40, .inl (fun _ => 0))) :: (a, .inr (1, [.ref q7, .ref q15, .ref q23, .ref q31, .null, .null, .null, .null, .null, .int 0, .int 0])) :: B) 41 [(0, .ref a)] [.ref q39, .ref a]
  refine y_putF (pc := 41) hC hN 1 4 5 rfl rfl inX1 tyX1_ok nmX1 (by decide) zm_1_163 rfl rfl rfl rfl (Nat.le_of_ble_eq_true rfl) dX1_init_41 ?_
  show zI C g 1 5 200 ((q39, .inl (g.2.2.1 0, 40, .inl (fun _ => 0))) :: (q31, .inl (g.2.2.1 0, 40, .inl (fun _ => 0))) :: (q23, .inl (g.2.2.1 0, 40, .inl (fun _ => 0))) :: (q15, .inl (g.2.2.1 0, 40, .inl (fun _ => 0))) :: (q7, .inl (g.2.2.1 0, 40, .inl (fun _ => 0))) :: (a, .inr (1, [.ref q7, .ref q15, .ref q23, .ref q31, .ref q39, .null, .null, .null, .null, .int 0, .int 0])) :: B) 44 [(0, .ref a)] []
  refine y_aload_n (pc := 44) hC 0 dX1_init_44 rfl rfl z_isr_r ?_
  refine y_bipush (pc := 45) (v := 40) hC dX1_init_45 rfl ?_
  refine y_newa (pc := 47) (atype := .int) (N' := 40) (z := .inl (fun _ => 0)) hC 0 zm_1_119 rfl rfl (fun _ => rfl) (by decide) (by decide) (Nat.le_of_ble_eq_true rfl) hRm (Nat.le_of_ble_eq_true rfl) (Nat.le_of_ble_eq_true rfl) dX1_init_47 (fun q47 => ?_)
  show zI C g 1 6 240 ((q47, .inl (g.2.2.1 0, 40, .inl (fun _ => 0))) :: (q39, .inl (g.2.2.1 0, 40, .inl (fun _ => 0))) :: (q31, .inl (g.2.2.1 0, 40, .inl (fun _ => 0))) :: (q23, .inl (g.2.2.1 0, 40, .inl (fun _ => 0))) :: (q15, .inl (g.2.2.1 0, 40, .inl (fun _ => 0))) :: (q7, .inl (g.2.2.1 0, 40, .inl (fun _ => 0))) :: (a, .inr (1, [.ref q7, .ref q15, .ref q23, .ref q31, .ref q39, .null, .null, .null, .null, .int 0, .int 0])) :: B) 49 [(0, .ref a)] [.ref q47, .ref a]
  refine y_putF (pc := 49) hC hN 1 5 6 rfl rfl inX1 tyX1_ok nmX1 (by decide) zm_1_164 rfl rfl rfl rfl (Nat.le_of_ble_eq_true rfl) dX1_init_49 ?_
  show zI C g 1 6 240 ((q47, .inl (g.2.2.1 0, 40, .inl (fun _ => 0))) :: (q39, .inl (g.2.2.1 0, 40, .inl (fun _ => 0))) :: (q31, .inl (g.2.2.1 0, 40, .inl (fun _ => 0))) :: (q23, .inl (g.2.2.1 0, 40, .inl (fun _ => 0))) :: (q15, .inl (g.2.2.1 0, 40, .inl (fun _ => 0))) :: (q7, .inl (g.2.2.1 0, 40, .inl (fun _ => 0))) :: (a, .inr (1, [.ref q7, .ref q15, .ref q23, .ref q31, .ref q39, .ref q47, .null, .null, .null, .int 0, .int 0])) :: B) 52 [(0, .ref a)] []
  refine y_aload_n (pc := 52) hC 0 dX1_init_52 rfl rfl z_isr_r ?_
  refine y_bipush (pc := 53) (v := 40) hC dX1_init_53 rfl ?_
  refine y_newa (pc := 55) (atype := .int) (N' := 40) (z := .inl (fun _ => 0)) hC 0 zm_1_119 rfl rfl (fun _ => rfl) (by decide) (by decide) (Nat.le_of_ble_eq_true rfl) hRm (Nat.le_of_ble_eq_true rfl) (Nat.le_of_ble_eq_true rfl) dX1_init_55 (fun q55 => ?_)
  show zI C g 1 7 280 ((q55, .inl (g.2.2.1 0, 40, .inl (fun _ => 0))) :: (q47, .inl (g.2.2.1 0, 40, .inl (fun _ => 0))) :: (q39, .inl (g.2.2.1 0, 40, .inl (fun _ => 0))) :: (q31, .inl (g.2.2.1 0, 40, .inl (fun _ => 0))) :: (q23, .inl (g.2.2.1 0, 40, .inl (fun _ => 0))) :: (q15, .inl (g.2.2.1 0, 40, .inl (fun _ => 0))) :: (q7, .inl (g.2.2.1 0, 40, .inl (fun _ => 0))) :: (a, .inr (1, [.ref q7, .ref q15, .ref q23, .ref q31, .ref q39, .ref q47, .null, .null, .null, .int 0, .int 0])) :: B) 57 [(0, .ref a)] [.ref q55, .ref a]
  refine y_putF (pc := 57) hC hN 1 6 7 rfl rfl inX1 tyX1_ok nmX1 (by decide) zm_1_165 rfl rfl rfl rfl (Nat.le_of_ble_eq_true rfl) dX1_init_57 ?_
  show zI C g 1 7 280 ((q55, .inl (g.2.2.1 0, 40, .inl (fun _ => 0))) :: (q47, .inl (g.2.2.1 0, 40, .inl (fun _ => 0))) :: (q39, .inl (g.2.2.1 0, 40, .inl (fun _ => 0))) :: (q31, .inl (g.2.2.1 0, 40, .inl (fun _ => 0))) :: (q23, .inl (g.2.2.1 0, 40, .inl (fun _ => 0))) :: (q15, .inl (g.2.2.1 0, 40, .inl (fun _ => 0))) :: (q7, .inl (g.2.2.1 0, 40, .inl (fun _ => 0))) :: (a, .inr (1, [.ref q7, .ref q15, .ref q23, .ref q31, .ref q39, .ref q47, .ref q55, .null, .null, .int 0, .int 0])) :: B) 60 [(0, .ref a)] []
  refine y_aload_n (pc := 60) hC 0 dX1_init_60 rfl rfl z_isr_r ?_
  refine y_bipush (pc := 61) (v := 40) hC dX1_init_61 rfl ?_
  refine y_newa (pc := 63) (atype := .int) (N' := 40) (z := .inl (fun _ => 0)) hC 0 zm_1_119 rfl rfl (fun _ => rfl) (by decide) (by decide) (Nat.le_of_ble_eq_true rfl) hRm (Nat.le_of_ble_eq_true rfl) (Nat.le_of_ble_eq_true rfl) dX1_init_63 (fun q63 => ?_)
  show zI C g 1 8 320 ((q63, .inl (g.2.2.1 0, 40, .inl (fun _ => 0))) :: (q55, .inl (g.2.2.1 0, 40, .inl (fun _ => 0))) :: (q47, .inl (g.2.2.1 0, 40, .inl (fun _ => 0))) :: (q39, .inl (g.2.2.1 0, 40, .inl (fun _ => 0))) :: (q31, .inl (g.2.2.1 0, 40, .inl (fun _ => 0))) :: (q23, .inl (g.2.2.1 0, 40, .inl (fun _ => 0))) :: (q15, .inl (g.2.2.1 0, 40, .inl (fun _ => 0))) :: (q7, .inl (g.2.2.1 0, 40, .inl (fun _ => 0))) :: (a, .inr (1, [.ref q7, .ref q15, .ref q23, .ref q31, .ref q39, .ref q47, .ref q55, .null, .null, .int 0, .int 0])) :: B) 65 [(0, .ref a)] [.ref q63, .ref a]
  refine y_putF (pc := 65) hC hN 1 7 8 rfl rfl inX1 tyX1_ok nmX1 (by decide) zm_1_166 rfl rfl rfl rfl (Nat.le_of_ble_eq_true rfl) dX1_init_65 ?_
  show zI C g 1 8 320 ((q63, .inl (g.2.2.1 0, 40, .inl (fun _ => 0))) :: (q55, .inl (g.2.2.1 0, 40, .inl (fun _ => 0))) :: (q47, .inl (g.2.2.1 0, 40, .inl (fun _ => 0))) :: (q39, .inl (g.2.2.1 0, 40, .inl (fun _ => 0))) :: (q31, .inl (g.2.2.1 0, 40, .inl (fun _ => 0))) :: (q23, .inl (g.2.2.1 0, 40, .inl (fun _ => 0))) :: (q15, .inl (g.2.2.1 0, 40, .inl (fun _ => 0))) :: (q7, .inl (g.2.2.1 0, 40, .inl (fun _ => 0))) :: (a, .inr (1, [.ref q7, .ref q15, .ref q23, .ref q31, .ref q39, .ref q47, .ref q55, .ref q63, .null, .int 0, .int 0])) :: B) 68 [(0, .ref a)] []
  refine y_aload_n (pc := 68) hC 0 dX1_init_68 rfl rfl z_isr_r ?_
  refine y_bipush (pc := 69) (v := 40) hC dX1_init_69 rfl ?_
  refine y_newa (pc := 71) (atype := .boolean) (N' := 40) (z := .inl (fun _ => 0)) hC 1 zm_1_193 rfl rfl (fun _ => rfl) (by decide) (by decide) (Nat.le_of_ble_eq_true rfl) hRm (Nat.le_of_ble_eq_true rfl) (Nat.le_of_ble_eq_true rfl) dX1_init_71 (fun q71 => ?_)
  show zI C g 1 9 360 ((q71, .inl (g.2.2.1 1, 40, .inl (fun _ => 0))) :: (q63, .inl (g.2.2.1 0, 40, .inl (fun _ => 0))) :: (q55, .inl (g.2.2.1 0, 40, .inl (fun _ => 0))) :: (q47, .inl (g.2.2.1 0, 40, .inl (fun _ => 0))) :: (q39, .inl (g.2.2.1 0, 40, .inl (fun _ => 0))) :: (q31, .inl (g.2.2.1 0, 40, .inl (fun _ => 0))) :: (q23, .inl (g.2.2.1 0, 40, .inl (fun _ => 0))) :: (q15, .inl (g.2.2.1 0, 40, .inl (fun _ => 0))) :: (q7, .inl (g.2.2.1 0, 40, .inl (fun _ => 0))) :: (a, .inr (1, [.ref q7, .ref q15, .ref q23, .ref q31, .ref q39, .ref q47, .ref q55, .ref q63, .null, .int 0, .int 0])) :: B) 73 [(0, .ref a)] [.ref q71, .ref a]
  refine y_putF (pc := 73) hC hN 1 8 9 rfl rfl inX1 tyX1_ok nmX1 (by decide) zm_1_167 rfl rfl rfl rfl (Nat.le_of_ble_eq_true rfl) dX1_init_73 ?_
  show zI C g 1 9 360 ((q71, .inl (g.2.2.1 1, 40, .inl (fun _ => 0))) :: (q63, .inl (g.2.2.1 0, 40, .inl (fun _ => 0))) :: (q55, .inl (g.2.2.1 0, 40, .inl (fun _ => 0))) :: (q47, .inl (g.2.2.1 0, 40, .inl (fun _ => 0))) :: (q39, .inl (g.2.2.1 0, 40, .inl (fun _ => 0))) :: (q31, .inl (g.2.2.1 0, 40, .inl (fun _ => 0))) :: (q23, .inl (g.2.2.1 0, 40, .inl (fun _ => 0))) :: (q15, .inl (g.2.2.1 0, 40, .inl (fun _ => 0))) :: (q7, .inl (g.2.2.1 0, 40, .inl (fun _ => 0))) :: (a, .inr (1, [.ref q7, .ref q15, .ref q23, .ref q31, .ref q39, .ref q47, .ref q55, .ref q63, .ref q71, .int 0, .int 0])) :: B) 76 [(0, .ref a)] []
  exact y_vret (pc := 76) hC hE dX1_init_76 ⟨rfl, q7, q15, q23, q31, q39, q47, q55, q63, q71, rfl⟩
set_option maxHeartbeats 4000000 in
set_option maxRecDepth 100000 in
theorem kX2_init (lx : Launch) (g : zG) (B : va_W) (a t : Nat) : z_CtI lx yX2_init (zT yX2_init cX2_init 2 (Option.none : Option FieldType)) ({ frames := 2, cells := 10, slots := 371, locals := 40 } : Room) g [.ref a, .ref t] ((a, .inr (2, [.null, .null, .int 0])) :: B) (fun v Y => v = none ∧ ∃ q5 q7 q15 q23 q31 q39 q47 q55 q63 q71 : Nat, Y = (q71, .inl (g.2.2.1 1, 40, .inl (fun _ => 0))) :: (q63, .inl (g.2.2.1 0, 40, .inl (fun _ => 0))) :: (q55, .inl (g.2.2.1 0, 40, .inl (fun _ => 0))) :: (q47, .inl (g.2.2.1 0, 40, .inl (fun _ => 0))) :: (q39, .inl (g.2.2.1 0, 40, .inl (fun _ => 0))) :: (q31, .inl (g.2.2.1 0, 40, .inl (fun _ => 0))) :: (q23, .inl (g.2.2.1 0, 40, .inl (fun _ => 0))) :: (q15, .inl (g.2.2.1 0, 40, .inl (fun _ => 0))) :: (q7, .inl (g.2.2.1 0, 40, .inl (fun _ => 0))) :: (q5, .inr (1, [.ref q7, .ref q15, .ref q23, .ref q31, .ref q39, .ref q47, .ref q55, .ref q63, .ref q71, .int 0, .int 0])) :: (a, .inr (2, [.ref t, .ref q5, .int 1])) :: B) 10 371 := by
  refine y_of (by decide) (Nat.le_of_ble_eq_true rfl) (lv0 := [(0, .ref a), (1, .ref t)]) rfl ?_
  intro C hlx hC hE hRm hN0
  have hC : zX0 C cX2_init 2 RX2 (zT yX2_init cX2_init 2 (Option.none : Option FieldType)) g := hC
  have hN : C.2.2.2.2.2.2.2.2.1.name = "<init>" := hN0
  refine y_aload_n (pc := 0) hC 0 dX2_init_0 rfl rfl z_isr_r ?_
  refine y_obj (pc := 1) hC zm_1_152 zm_1_19 zm_1_20 hRm (Nat.le_of_ble_eq_true rfl) (Nat.le_of_ble_eq_true rfl) dX2_init_1 ?_
  refine y_aload_n (pc := 4) hC 0 dX2_init_4 rfl rfl z_isr_r ?_
  refine y_new (pc := 5) (fs := [.null, .null, .null, .null, .null, .null, .null, .null, .null, .int 0, .int 0]) hC 1 rfl inX1 tyX1_ok zm_1_153 zm_1_154 zm_1_5 (by intro j hj; rcases (by omega : j = 0 ∨ j = 1 ∨ j = 2 ∨ j = 3 ∨ j = 4 ∨ j = 5 ∨ j = 6 ∨ j = 7 ∨ j = 8 ∨ j = 9 ∨ j = 10) with rfl | rfl | rfl | rfl | rfl | rfl | rfl | rfl | rfl | rfl | rfl <;> rfl) hRm (Nat.le_of_ble_eq_true rfl) (Nat.le_of_ble_eq_true rfl) dX2_init_5 (fun q5 => ?_)
  show zI C g 2 1 11 ((q5, .inr (1, [.null, .null, .null, .null, .null, .null, .null, .null, .null, .int 0, .int 0])) :: (a, .inr (2, [.null, .null, .int 0])) :: B) 8 [(0, .ref a), (1, .ref t)] [.ref q5, .ref a]
  refine y_dup (pc := 8) hC dX2_init_8 rfl ?_
  refine y_callIN (pc := 9) (st := [.ref q5, .ref a]) hC [] (kX1_init C.2.1 g ((a, .inr (2, [.null, .null, .int 0])) :: B) q5) zjX1_init (hC.2.2.2.2.2.1.2.2.2.2.2.1) ⟨rfl, rfl⟩ rfl rfl hRm ⟨Nat.le_of_ble_eq_true rfl, Nat.le_of_ble_eq_true rfl⟩ (Nat.le_of_ble_eq_true rfl) ⟨(Nat.le_of_ble_eq_true rfl), (Nat.le_of_ble_eq_true rfl)⟩ dX2_init_9 ?_
  intro v Y hR
  obtain ⟨hv, q7, q15, q23, q31, q39, q47, q55, q63, q71, hY⟩ := hR
  subst hv
  subst hY
  show zI C g 2 10 371 ((q71, .inl (g.2.2.1 1, 40, .inl (fun _ => 0))) :: (q63, .inl (g.2.2.1 0, 40, .inl (fun _ => 0))) :: (q55, .inl (g.2.2.1 0, 40, .inl (fun _ => 0))) :: (q47, .inl (g.2.2.1 0, 40, .inl (fun _ => 0))) :: (q39, .inl (g.2.2.1 0, 40, .inl (fun _ => 0))) :: (q31, .inl (g.2.2.1 0, 40, .inl (fun _ => 0))) :: (q23, .inl (g.2.2.1 0, 40, .inl (fun _ => 0))) :: (q15, .inl (g.2.2.1 0, 40, .inl (fun _ => 0))) :: (q7, .inl (g.2.2.1 0, 40, .inl (fun _ => 0))) :: (q5, .inr (1, [.ref q7, .ref q15, .ref q23, .ref q31, .ref q39, .ref q47, .ref q55, .ref q63, .ref q71, .int 0, .int 0])) :: (a, .inr (2, [.null, .null, .int 0])) :: B) 12 [(0, .ref a), (1, .ref t)] [.ref q5, .ref a]
  refine y_putF (pc := 12) hC hN 2 1 10 rfl rfl inX2 tyX2_ok nmX2 (by decide) zm_1_195 rfl rfl rfl rfl (Nat.le_of_ble_eq_true rfl) dX2_init_12 ?_
  show zI C g 2 10 371 ((q71, .inl (g.2.2.1 1, 40, .inl (fun _ => 0))) :: (q63, .inl (g.2.2.1 0, 40, .inl (fun _ => 0))) :: (q55, .inl (g.2.2.1 0, 40, .inl (fun _ => 0))) :: (q47, .inl (g.2.2.1 0, 40, .inl (fun _ => 0))) :: (q39, .inl (g.2.2.1 0, 40, .inl (fun _ => 0))) :: (q31, .inl (g.2.2.1 0, 40, .inl (fun _ => 0))) :: (q23, .inl (g.2.2.1 0, 40, .inl (fun _ => 0))) :: (q15, .inl (g.2.2.1 0, 40, .inl (fun _ => 0))) :: (q7, .inl (g.2.2.1 0, 40, .inl (fun _ => 0))) :: (q5, .inr (1, [.ref q7, .ref q15, .ref q23, .ref q31, .ref q39, .ref q47, .ref q55, .ref q63, .ref q71, .int 0, .int 0])) :: (a, .inr (2, [.null, .ref q5, .int 0])) :: B) 15 [(0, .ref a), (1, .ref t)] []
  refine y_aload_n (pc := 15) hC 0 dX2_init_15 rfl rfl z_isr_r ?_
  refine y_iconst (pc := 16) (v := 1) hC dX2_init_16 rfl ?_
  refine y_put (pc := 17) hC 2 2 10 rfl rfl inX2 tyX2_ok nmX2 (by decide) zm_1_196 rfl rfl rfl (Nat.le_of_ble_eq_true rfl) dX2_init_17 ?_
  show zI C g 2 10 371 ((q71, .inl (g.2.2.1 1, 40, .inl (fun _ => 0))) :: (q63, .inl (g.2.2.1 0, 40, .inl (fun _ => 0))) :: (q55, .inl (g.2.2.1 0, 40, .inl (fun _ => 0))) :: (q47, .inl (g.2.2.1 0, 40, .inl (fun _ => 0))) :: (q39, .inl (g.2.2.1 0, 40, .inl (fun _ => 0))) :: (q31, .inl (g.2.2.1 0, 40, .inl (fun _ => 0))) :: (q23, .inl (g.2.2.1 0, 40, .inl (fun _ => 0))) :: (q15, .inl (g.2.2.1 0, 40, .inl (fun _ => 0))) :: (q7, .inl (g.2.2.1 0, 40, .inl (fun _ => 0))) :: (q5, .inr (1, [.ref q7, .ref q15, .ref q23, .ref q31, .ref q39, .ref q47, .ref q55, .ref q63, .ref q71, .int 0, .int 0])) :: (a, .inr (2, [.null, .ref q5, .int 1])) :: B) 20 [(0, .ref a), (1, .ref t)] []
  refine y_aload_n (pc := 20) hC 0 dX2_init_20 rfl rfl z_isr_r ?_
  refine y_aload_n (pc := 21) hC 1 dX2_init_21 rfl rfl z_isr_r ?_
  refine y_putF (pc := 22) hC hN 2 0 10 rfl rfl inX2 tyX2_ok nmX2 (by decide) zm_1_194 rfl rfl rfl rfl (Nat.le_of_ble_eq_true rfl) dX2_init_22 ?_
  show zI C g 2 10 371 ((q71, .inl (g.2.2.1 1, 40, .inl (fun _ => 0))) :: (q63, .inl (g.2.2.1 0, 40, .inl (fun _ => 0))) :: (q55, .inl (g.2.2.1 0, 40, .inl (fun _ => 0))) :: (q47, .inl (g.2.2.1 0, 40, .inl (fun _ => 0))) :: (q39, .inl (g.2.2.1 0, 40, .inl (fun _ => 0))) :: (q31, .inl (g.2.2.1 0, 40, .inl (fun _ => 0))) :: (q23, .inl (g.2.2.1 0, 40, .inl (fun _ => 0))) :: (q15, .inl (g.2.2.1 0, 40, .inl (fun _ => 0))) :: (q7, .inl (g.2.2.1 0, 40, .inl (fun _ => 0))) :: (q5, .inr (1, [.ref q7, .ref q15, .ref q23, .ref q31, .ref q39, .ref q47, .ref q55, .ref q63, .ref q71, .int 0, .int 0])) :: (a, .inr (2, [.ref t, .ref q5, .int 1])) :: B) 25 [(0, .ref a), (1, .ref t)] []
  exact y_vret (pc := 25) hC hE dX2_init_25 ⟨rfl, q5, q7, q15, q23, q31, q39, q47, q55, q63, q71, rfl⟩
theorem zupd_st {f : Nat → Int32} {i : Nat} : upd (fun j => if j < i then z_st 2 j else f j) i (z_st 2 i) = fun j => if j < i + 1 then z_st 2 j else f j := by
  funext j
  unfold upd
  by_cases e : j = i
  · rw [e, if_pos rfl, if_pos (Nat.lt_succ_self _)]
  · rw [if_neg e]
    show (if j < i then z_st 2 j else f j) = _
    by_cases h : j < i
    · rw [if_pos h, if_pos (by omega)]
    · rw [if_neg h, if_neg (by omega)]
set_option maxHeartbeats 4000000 in
set_option maxRecDepth 100000 in
theorem kI0_begin (lx : Launch) (g : zG) (B : va_W) (a s : Nat) (n : Int32) (f : Nat → Int32) : z_CtI lx yX0_begin (zT yX0_begin cX0_begin 3 (Option.none : Option FieldType)) ({ frames := 0, cells := 0, slots := 0, locals := 0 } : Room) g [.ref a, .null] ((s, .inl (g.2.2.1 0, 20, .inl f)) :: (a, .inr (0, [.int n, .ref s, .int 0, .null, .int 0, .int 0, .null, .null, .int 0, .null, .int 0, .int 0, .int 0, .int 0, .int 0, .int 0, .int 0, .int 0])) :: B) (fun v Y => v = none ∧ Y = (s, .inl (g.2.2.1 0, 20, .inl (fun j => if j < 20 then z_st 2 j else f j))) :: (a, .inr (0, [.int n, .ref s, .int 1, .null, .int 0, .int 0, .null, .null, .int 0, .null, .int 0, .int 0, .int 0, .int 0, .int 0, .int 0, .int 0, .int 0])) :: B) 0 0 := by
  refine y_of (by decide) (Nat.le_of_ble_eq_true rfl) (lv0 := [(0, .ref a), (1, .null)]) rfl ?_
  intro C hlx hC hE hRm hN0
  have hC : zX0 C cX0_begin 3 RX0 (zT yX0_begin cX0_begin 3 (Option.none : Option FieldType)) g := hC
  refine y_aload_n (pc := 0) hC 0 dX0_begin_0 rfl rfl z_isr_r ?_
  refine y_aload_n (pc := 1) hC 1 dX0_begin_1 rfl rfl z_isr_n ?_
  refine y_put (pc := 2) hC 0 3 1 rfl rfl inX0 tyX0_ok nmX0 (by decide) zm_1_42 rfl rfl rfl (Nat.le_of_ble_eq_true rfl) dX0_begin_2 ?_
  show zI C g 3 0 0 ((s, .inl (g.2.2.1 0, 20, .inl f)) :: (a, .inr (0, [.int n, .ref s, .int 0, .null, .int 0, .int 0, .null, .null, .int 0, .null, .int 0, .int 0, .int 0, .int 0, .int 0, .int 0, .int 0, .int 0])) :: B) 5 [(0, .ref a), (1, .null)] []
  refine y_aload_n (pc := 5) hC 0 dX0_begin_5 rfl rfl z_isr_r ?_
  refine y_iconst (pc := 6) (v := 1) hC dX0_begin_6 rfl ?_
  refine y_put (pc := 7) hC 0 2 1 rfl rfl inX0 tyX0_ok nmX0 (by decide) zm_1_39 rfl rfl rfl (Nat.le_of_ble_eq_true rfl) dX0_begin_7 ?_
  show zI C g 3 0 0 ((s, .inl (g.2.2.1 0, 20, .inl f)) :: (a, .inr (0, [.int n, .ref s, .int 1, .null, .int 0, .int 0, .null, .null, .int 0, .null, .int 0, .int 0, .int 0, .int 0, .int 0, .int 0, .int 0, .int 0])) :: B) 10 [(0, .ref a), (1, .null)] []
  refine y_iconst (pc := 10) (v := 0) hC dX0_begin_10 rfl ?_
  refine y_istore_n (pc := 11) (lv' := [(2, .int 0), (0, .ref a), (1, .null)]) hC dX0_begin_11 rfl (by decide) rfl ?_
  have L12 : ∀ (zf i : Nat), i ≤ 20 → 20 - i < zf → zI C g 3 0 0 ((s, .inl (g.2.2.1 0, 20, .inl (fun j => if j < i then z_st 2 j else f j))) :: (a, .inr (0, [.int n, .ref s, .int 1, .null, .int 0, .int 0, .null, .null, .int 0, .null, .int 0, .int 0, .int 0, .int 0, .int 0, .int 0, .int 0, .int 0])) :: B) 12 [(2, .int (nI i)), (0, .ref a), (1, .null)] [] := by
    intro zf
    induction zf with
    | zero =>
      intro i hi hn2
      exact absurd hn2 (Nat.not_lt_zero _)
    | succ zf ih =>
      intro i hi hn2
      refine y_iload_n (pc := 12) hC 0 dX0_begin_12 rfl rfl ?_
      refine y_bipush (pc := 13) (v := 20) hC dX0_begin_13 rfl ?_
      refine y_icmp_ge (pc := 15) (tgt := 35) hC dX0_begin_15 (by decide) (fun h15 => ?_) (fun h15 => ?_)
      · skip
        have e15 : i = 20 := Nat.le_antisymm hi (zc_ge (n := 20) h15 (by omega) (by decide))
        subst e15
        exact y_vret (pc := 35) hC hE dX0_begin_35 ⟨rfl, rfl⟩
      · skip
        have e15 : i < 20 := zc_lt (n := 20) h15 (by omega) (by decide)
        refine y_aload_n (pc := 18) hC 1 dX0_begin_18 rfl rfl z_isr_r ?_
        refine y_get (pc := 19) hC 0 1 1 (v := .ref s) rfl rfl inX0 (by decide) zm_1_38 rfl dX0_begin_19 ?_
        refine y_iload_n (pc := 22) hC 0 dX0_begin_22 rfl rfl ?_
        refine y_getsN (pc := 23) hC 2 (hC.2.2.2.2.2.1.2.2.2.1) (hC.2.2.2.2.2.1.2.2.2.2.1) dX0_begin_23 ?_
        refine y_iload_n (pc := 26) hC 0 dX0_begin_26 rfl rfl ?_
        refine y_saN (pc := 27) hC 2 i (hC.2.2.2.2.2.1.2.2.2.1) rfl e15 dX0_begin_27 ?_
        refine y_iast (pc := 28) hC 0 i rfl rfl e15 (by decide) dX0_begin_28 ?_
        show zI C g 3 0 0 ((s, .inl (g.2.2.1 0, 20, .inl (upd (fun j => if j < i then z_st 2 j else f j) i (z_st 2 i)))) :: (a, .inr (0, [.int n, .ref s, .int 1, .null, .int 0, .int 0, .null, .null, .int 0, .null, .int 0, .int 0, .int 0, .int 0, .int 0, .int 0, .int 0, .int 0])) :: B) 29 [(2, .int (nI i)), (0, .ref a), (1, .null)] []
        refine y_iinc (pc := 29) (v := nI (i + 1)) (lv' := [(2, .int (nI (i + 1))), (0, .ref a), (1, .null)]) hC 0 dX0_begin_29 rfl (nI_1 i) (by decide) rfl ?_
        refine y_goto (pc := 32) (tgt := 12) hC dX0_begin_32 (by decide) ?_
        rw [zupd_st]
        refine y_lvs (lv' := [(2, .int (nI (i + 1))), (0, .ref a), (1, .null)]) [0, 1, 2] rfl ?_
        exact ih (i + 1) (by omega) (by omega)
  refine y_lvs (lv' := [(2, .int (nI 0)), (0, .ref a), (1, .null)]) [0, 1, 2] rfl ?_
  have L := L12 21 0 (by decide) (by decide)
  rw [show (fun j => if j < 0 then z_st 2 j else f j) = f from funext fun j => if_neg (Nat.not_lt_zero j)] at L
  exact L
end ZCT1
