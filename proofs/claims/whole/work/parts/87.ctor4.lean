section ZCT4
/-- the forty rows of a snapshot's styles -/
def zrw (g : zG) (r : Nat → Nat) : va_W := (List.range 40).map (fun j => (r j, .inl (g.2.2.1 0, 20, .inl (fun _ => 0))))
theorem arrV_cg {cA : ClassId} {n : Nat} {f h : Nat → Value} (e : ∀ j, j < n → f j = h j) : arrV cA n f = arrV cA n h := by
  unfold arrV
  have e2 : (fun j : Fin n => f j.val) = fun j => h j.val := funext fun j => e j.val j.isLt
  rw [e2]
theorem y_mna {C : zC} {g : zG} {nL cells slots : Nat} {X : va_W} {pc : Nat} {lv : List (Nat × Value)} {st : List Value} {cc : ByteArray} {own : String} {w0 : Cond} (hC : zX0 C cc nL own (w0 :: zU) g) {R0 : Room} {index : Nat} (hlk : Cond.classLink own index "[[I" ∈ zU) (hRm : C.2.2.2.1 = R0) (h1 : cells + 41 ≤ R0.cells) (h2 : slots + 840 ≤ R0.slots) (hdg : decode cc pc = .ok (.multianewarray index 2, 4)) (kk : ∀ (q : Nat) (r : Nat → Nat), zI C g nL (cells + 41) (slots + 840) ((q, .inl (g.2.2.1 5, 40, .inr (.inr (.inr (.inr (fun j => some (r j))))))) :: (X ++ zrw g r)) (pc + 4) lv (.ref q :: st)) : zI C g nL cells slots X pc lv (.int 20 :: .int 40 :: st) := by
  intro H locs ls hP hD hS hl
  obtain ⟨kA, hkA, hiA⟩ := hC.2.2.2.2.2.2.1.2.2
  have hKA := hC.2.2.2.2.2.1.1.2 5 _ rfl
  have hK0 := hC.2.2.2.2.2.1.1.2 0 _ rfl
  obtain ⟨-, kI, hkI, cz, hiI⟩ := hK0.1 0 (fun _ => .null)
  have hfA : C.2.2.2.2.1.vm.findClass "[[I" = some (g.2.2.1 5) := hKA.2
  refine zw_mna hC.1 hC.2.1 hC.2.2.2.1 (hC.2.2.2.2.1 _ (z_tw hlk)) hfA hkA hiA hkI hiI hdg (by rw [hRm]; exact h1) (by rw [hRm]; exact h2) (fun H1 L hL hz ho hq hr => ?_)
  have hold : ∀ p ∈ X, va_at g.2.1 vwCl p H1 := fun p hp => by
    have h := va_P_mem.mp hP p hp
    exact h.kept (ho p.1 h.lt)
  have hlt : ∀ p ∈ X, p.1 < H.size := fun p hp => (va_P_mem.mp hP p hp).lt
  have hA0 : g.2.2.2.2 ≤ H.size := Nat.le_trans hC.2.2.2.2.2.2.2 hS.1
  have hmr : ∀ p, p ∈ zrw g (fun j => H.size + 1 + j) → ∃ j, j < 40 ∧ p = (H.size + 1 + j, .inl (g.2.2.1 0, 20, .inl (fun _ => 0))) := fun p hp => by
    obtain ⟨j, hj, e⟩ := List.mem_map.mp hp
    exact ⟨j, List.mem_range.mp hj, e.symm⟩
  refine kk H.size (fun j => H.size + 1 + j) H1 (locs ++ L) ls (va_P_mem.mpr (fun p hp => ?_)) (va_D_iff.mpr ⟨?_, fun p hp => ?_⟩) ⟨Nat.le_trans hS.1 (by omega), fun q hq1 hq2 => (ho q (Nat.lt_of_lt_of_le hq1 hS.1)).trans (hS.2.1 q hq1 hq2), fun x hx => ?_⟩ hl
  · rcases List.mem_cons.mp hp with rfl | hp
    · show H1[H.size]? = some (arrV (g.2.2.1 5) 40 (fun j => .ref (H.size + 1 + j)))
      rw [hq]
      refine congrArg some (arrV_cg fun j hj => ?_)
      unfold zMr
      rw [if_pos hj]
    · rcases List.mem_append.mp hp with hp | hp
      · exact hold p hp
      · obtain ⟨j, hj, rfl⟩ := hmr p hp
        exact hr j hj
  · refine List.pairwise_cons.mpr ⟨fun p hp e => ?_, List.pairwise_append.mpr ⟨(va_D_iff.mp hD).1, ?_, fun p hp p2 hp2 e => ?_⟩⟩
    · have e2 : H.size = p.1 := e
      rcases List.mem_append.mp hp with hp | hp
      · have := hlt p hp
        omega
      · obtain ⟨j, hj, rfl⟩ := hmr p hp
        have e3 : H.size = H.size + 1 + j := e2
        omega
    · unfold zrw
      rw [List.pairwise_map]
      exact List.pairwise_lt_range.imp (fun {a b} hab e => by
        have e2 : H.size + 1 + a = H.size + 1 + b := e
        omega)
    · have h3 := hlt p hp
      obtain ⟨j, hj, rfl⟩ := hmr p2 hp2
      have e3 : p.1 = H.size + 1 + j := e
      omega
  · rcases List.mem_cons.mp hp with rfl | hp
    · exact hA0
    · rcases List.mem_append.mp hp with hp | hp
      · exact (va_D_iff.mp hD).2 p hp
      · obtain ⟨j, hj, rfl⟩ := hmr p hp
        show g.2.2.2.2 ≤ H.size + 1 + j
        omega
  · rcases List.mem_append.mp hx with h | h
    · exact hS.2.2 x h
    · show g.2.2.2.2 ≤ x.base
      rw [hL x h]
      exact hA0
theorem zjX3_init : z_pkI yX3_init cX3_init 1 0 := ⟨zm_4_13, zm_1_14, zm_4_14, rfl, by decide, by decide, by decide +kernel⟩
set_option maxHeartbeats 4000000 in
set_option maxRecDepth 100000 in
theorem kX3_init (lx : Launch) (g : zG) (B : va_W) (a : Nat) : z_CtI lx yX3_init (zT yX3_init cX3_init 1 (Option.none : Option FieldType)) ({ frames := 1, cells := 43, slots := 920, locals := 20 } : Room) g [.ref a] ((a, .inr (3, [.null, .null, .null, .int 0, .int 0, .int 0])) :: B) (fun v Y => v = none ∧ ∃ (x y z : Nat) (r : Nat → Nat), Y = ((z, .inl (g.2.2.1 5, 40, .inr (.inr (.inr (.inr (fun j => some (r j))))))) :: (y, .inl (g.2.2.1 0, 40, .inl (fun _ => 0))) :: (x, .inl (g.2.2.1 1, 40, .inl (fun _ => 0))) :: (a, .inr (3, [.ref x, .ref y, .ref z, .int 0, .int 0, .int 0])) :: (B ++ zrw g r))) 43 920 := by
  refine y_of (by decide) (Nat.le_of_ble_eq_true rfl) (lv0 := [(0, .ref a)]) rfl ?_
  intro C hlx hC hE hRm hN0
  have hC : zX0 C cX3_init 1 RX3 (zT yX3_init cX3_init 1 (Option.none : Option FieldType)) g := hC
  have hN : C.2.2.2.2.2.2.2.2.1.name = "<init>" := hN0
  refine y_aload_n (pc := 0) hC 0 dX3_init_0 rfl rfl z_isr_r ?_
  refine y_obj (pc := 1) hC zm_4_15 zm_1_22 zm_1_23 hRm (Nat.le_of_ble_eq_true rfl) (Nat.le_of_ble_eq_true rfl) dX3_init_1 ?_
  refine y_aload_n (pc := 4) hC 0 dX3_init_4 rfl rfl z_isr_r ?_
  refine y_bipush (pc := 5) (v := 40) hC dX3_init_5 rfl ?_
  refine y_newa (pc := 7) (atype := .boolean) (N' := 40) (z := .inl (fun _ => 0)) hC 1 zm_1_199 rfl rfl (fun _ => rfl) (by decide) (by decide) (Nat.le_of_ble_eq_true rfl) hRm (Nat.le_of_ble_eq_true rfl) (Nat.le_of_ble_eq_true rfl) dX3_init_7 (fun q7 => ?_)
  show zI C g 1 1 40 ((q7, .inl (g.2.2.1 1, 40, .inl (fun _ => 0))) :: (a, .inr (3, [.null, .null, .null, .int 0, .int 0, .int 0])) :: B) 9 [(0, .ref a)] [.ref q7, .ref a]
  refine y_putF (pc := 9) hC hN 3 0 1 rfl rfl inX3 tyX3_ok nmX3 (by decide) zm_4_18 rfl rfl rfl rfl (Nat.le_of_ble_eq_true rfl) dX3_init_9 ?_
  show zI C g 1 1 40 ((q7, .inl (g.2.2.1 1, 40, .inl (fun _ => 0))) :: (a, .inr (3, [.ref q7, .null, .null, .int 0, .int 0, .int 0])) :: B) 12 [(0, .ref a)] []
  refine y_aload_n (pc := 12) hC 0 dX3_init_12 rfl rfl z_isr_r ?_
  refine y_bipush (pc := 13) (v := 40) hC dX3_init_13 rfl ?_
  refine y_newa (pc := 15) (atype := .int) (N' := 40) (z := .inl (fun _ => 0)) hC 0 zm_1_125 rfl rfl (fun _ => rfl) (by decide) (by decide) (Nat.le_of_ble_eq_true rfl) hRm (Nat.le_of_ble_eq_true rfl) (Nat.le_of_ble_eq_true rfl) dX3_init_15 (fun q15 => ?_)
  show zI C g 1 2 80 ((q15, .inl (g.2.2.1 0, 40, .inl (fun _ => 0))) :: (q7, .inl (g.2.2.1 1, 40, .inl (fun _ => 0))) :: (a, .inr (3, [.ref q7, .null, .null, .int 0, .int 0, .int 0])) :: B) 17 [(0, .ref a)] [.ref q15, .ref a]
  refine y_putF (pc := 17) hC hN 3 1 2 rfl rfl inX3 tyX3_ok nmX3 (by decide) zm_4_20 rfl rfl rfl rfl (Nat.le_of_ble_eq_true rfl) dX3_init_17 ?_
  show zI C g 1 2 80 ((q15, .inl (g.2.2.1 0, 40, .inl (fun _ => 0))) :: (q7, .inl (g.2.2.1 1, 40, .inl (fun _ => 0))) :: (a, .inr (3, [.ref q7, .ref q15, .null, .int 0, .int 0, .int 0])) :: B) 20 [(0, .ref a)] []
  refine y_aload_n (pc := 20) hC 0 dX3_init_20 rfl rfl z_isr_r ?_
  refine y_bipush (pc := 21) (v := 40) hC dX3_init_21 rfl ?_
  refine y_bipush (pc := 23) (v := 20) hC dX3_init_23 rfl ?_
  refine y_mna (pc := 25) hC zm_4_16 hRm (Nat.le_of_ble_eq_true rfl) (Nat.le_of_ble_eq_true rfl) dX3_init_25 (fun q25 r25 => ?_)
  show zI C g 1 43 920 ((q25, .inl (g.2.2.1 5, 40, .inr (.inr (.inr (.inr (fun j => some (r25 j))))))) :: (q15, .inl (g.2.2.1 0, 40, .inl (fun _ => 0))) :: (q7, .inl (g.2.2.1 1, 40, .inl (fun _ => 0))) :: (a, .inr (3, [.ref q7, .ref q15, .null, .int 0, .int 0, .int 0])) :: (B ++ zrw g r25)) 29 [(0, .ref a)] [.ref q25, .ref a]
  refine y_putF (pc := 29) hC hN 3 2 3 rfl rfl inX3 tyX3_ok nmX3 (by decide) zm_4_22 rfl rfl rfl rfl (Nat.le_of_ble_eq_true rfl) dX3_init_29 ?_
  show zI C g 1 43 920 ((q25, .inl (g.2.2.1 5, 40, .inr (.inr (.inr (.inr (fun j => some (r25 j))))))) :: (q15, .inl (g.2.2.1 0, 40, .inl (fun _ => 0))) :: (q7, .inl (g.2.2.1 1, 40, .inl (fun _ => 0))) :: (a, .inr (3, [.ref q7, .ref q15, .ref q25, .int 0, .int 0, .int 0])) :: (B ++ zrw g r25)) 32 [(0, .ref a)] []
  exact y_vret (pc := 32) hC hE dX3_init_32 ⟨rfl, q7, q15, q25, r25, rfl⟩
end ZCT4
