section ZFM
theorem zkX5_existing : z_pkV yX5_existing cX5_existing 3 (Option.some (FieldType.object "FlexibleBoxes$Box")) RX5 1 := ⟨zm_1_223, zs_X5_existing, zm_1_1, zm_1_224, rfl, by decide, by decide, by decide +kernel⟩
theorem zkX5_laidOut : z_pkV yX5_laidOut cX5_laidOut 2 (Option.some (FieldType.object "FlexibleBoxes$Box")) RX5 1 := ⟨zm_3_73, zs_X5_laidOut, zm_1_1, zm_3_74, rfl, by decide, by decide, by decide +kernel⟩
theorem zkX5_add : z_pkV yX5_add cX5_add 3 (Option.some FieldType.int) RX5 1 := ⟨zm_1_218, zm_1_219, zm_1_1, zm_1_220, rfl, by decide, by decide, by decide +kernel⟩
theorem zkX5_child : z_pkV yX5_child cX5_child 6 (Option.some FieldType.int) RX5 2 := ⟨zm_2_83, zm_2_84, zm_1_1, zm_2_85, rfl, by decide, by decide, by decide +kernel⟩
theorem zkX5_set : z_pkV yX5_set cX5_set 5 (Option.some FieldType.int) RX5 3 := ⟨zm_3_27, zm_3_28, zm_1_1, zm_3_29, rfl, by decide, by decide, by decide +kernel⟩
theorem zkX5_viewport : z_pkV yX5_viewport cX5_viewport 3 (Option.none : Option FieldType) RX5 2 := ⟨zm_3_60, zm_3_61, zm_1_1, zm_3_62, rfl, by decide, by decide, by decide +kernel⟩
theorem zkX5_x : z_pkV yX5_x cX5_x 2 (Option.some FieldType.int) RX5 1 := ⟨zm_3_68, zm_3_69, zm_1_1, zm_3_70, rfl, by decide, by decide, by decide +kernel⟩
theorem zkX5_y : z_pkV yX5_y cX5_y 2 (Option.some FieldType.int) RX5 1 := ⟨zm_3_77, zm_3_78, zm_1_1, zm_3_79, rfl, by decide, by decide, by decide +kernel⟩
theorem zkX5_width : z_pkV yX5_width cX5_width 2 (Option.some FieldType.int) RX5 1 := ⟨zm_3_81, zm_3_82, zm_1_1, zm_3_83, rfl, by decide, by decide, by decide +kernel⟩
theorem zkX5_height : z_pkV yX5_height cX5_height 2 (Option.some FieldType.int) RX5 1 := ⟨zm_3_85, zm_3_86, zm_1_1, zm_3_87, rfl, by decide, by decide, by decide +kernel⟩
theorem zkX5_lines : z_pkV yX5_lines cX5_lines 2 (Option.some FieldType.int) RX5 1 := ⟨zm_3_89, zm_3_90, zm_1_1, zm_3_91, rfl, by decide, by decide, by decide +kernel⟩
theorem zkX5_lineOf : z_pkV yX5_lineOf cX5_lineOf 2 (Option.some FieldType.int) RX5 1 := ⟨zm_3_93, zm_3_94, zm_1_1, zm_3_95, rfl, by decide, by decide, by decide +kernel⟩
theorem zkX5_overflow : z_pkV yX5_overflow cX5_overflow 3 (Option.some FieldType.int) RX5 1 := ⟨zm_3_97, zm_3_98, zm_1_1, zm_3_99, rfl, by decide, by decide, by decide +kernel⟩
theorem zkX5_hit : z_pkV yX5_hit cX5_hit 3 (Option.some FieldType.int) RX5 2 := ⟨zm_3_107, zm_3_108, zm_1_1, zm_3_109, rfl, by decide, by decide, by decide +kernel⟩
theorem zkX5_widthFor : z_pkV yX5_widthFor cX5_widthFor 4 (Option.some FieldType.int) RX5 2 := ⟨zm_3_122, zm_3_123, zm_1_1, zm_3_124, rfl, by decide, by decide, by decide +kernel⟩
set_option maxHeartbeats 4000000 in
set_option maxRecDepth 100000 in
theorem kX5_existing (lx : Launch) (hst : lx.stackTraces = false) (g : zG) (sa : Nat → Nat) (N : Nat) (I : Nat → Nat → Int32) (P : Nat → Nat → Option Nat) (J : Nat → Nat → Int64) {σ : zS} (ht : zTr σ I P) (x : Int32) : z_CtX lx yX5_existing (zT yX5_existing cX5_existing 3 (Option.some (FieldType.object "FlexibleBoxes$Box"))) ({ frames := 6, cells := 1, slots := 6, locals := 90 } : Room) g sa N I P J [.ref (g.1 80), .int x] (fun v I' P' J' => ∃ b, x = nI b ∧ b < 40 ∧ sEx σ b = true ∧ v = some (.ref (g.1 b)) ∧ I' = I ∧ P' = P ∧ J' = J) (fun E I' P' J' => (E = zEn 0 ∧ ¬ sBx σ x) ∧ I' = I ∧ P' = P ∧ J' = J) 1 6 := by
  refine z_ofX (by decide) (Nat.le_of_ble_eq_true rfl) (lv0 := [(0, .ref (g.1 80)), (1, .int x)]) rfl ?_
  intro C hlx hC hE hRm hX
  have hC : zX C cX5_existing 3 RX5 (zT yX5_existing cX5_existing 3 (Option.some (FieldType.object "FlexibleBoxes$Box"))) g N := hC
  by_cases hx : 0 ≤ x ∧ x < 40
  · skip
    obtain ⟨k, hk, rfl⟩ := zi_nI (n := 40) (by decide) hx.1 hx.2
    refine z_aload_n (pc := 0) hC 0 dX5_existing_0 rfl rfl z_isr_r ?_
    refine z_gF (pc := 1) hC 5 0 (t := 81) rfl (z_lt hC (by decide)) rfl inX5 (by decide) rfl zm_1_207 rfl dX5_existing_1 ?_
    refine z_iload_n (pc := 4) hC 1 dX5_existing_4 rfl rfl ?_
    refine z_cV (pc := 5) (st := []) hC [.int (nI k)] (kX4_at C.2.1 g N I P J k hk (nI k) rfl) rfl (z_lt hC (by decide)) rfl zkX4_at zm_1_225 ⟨rfl, rfl⟩ rfl rfl hRm ⟨Nat.le_of_ble_eq_true rfl, Nat.le_of_ble_eq_true rfl⟩ (Nat.le_of_ble_eq_true rfl) ⟨Nat.zero_le _, Nat.zero_le _⟩ dX5_existing_5 ?_
    refine z_astore_n (pc := 8) (lv' := [(2, .ref (g.1 k)), (0, .ref (g.1 80)), (1, .int (nI k))]) hC dX5_existing_8 rfl (by decide) z_isr_r rfl ?_
    refine z_aload_n (pc := 9) hC 0 dX5_existing_9 rfl rfl z_isr_r ?_
    refine z_ifnullR (pc := 10) hC dX5_existing_10 ?_
    refine z_aload_n (pc := 13) hC 0 dX5_existing_13 rfl rfl z_isr_r ?_
    refine z_gI (pc := 14) hC 0 2 (x := zB (sEx σ k)) (z_shb hk) (z_ltb hC hk) rfl inX0 (by decide) rfl zm_1_41 (ht.2.2.1 k hk) dX5_existing_14 ?_
    refine z_if_ne (pc := 17) (tgt := 30) hC dX5_existing_17 (by decide) (fun h17 => ?_) (fun h17 => ?_)
    · skip
      have g17 := zB_t h17
      refine z_aload_n (pc := 30) hC 0 dX5_existing_30 rfl rfl z_isr_r ?_
      exact z_aretX (pc := 31) hC hE ⟨by decide, by decide⟩ z_isr_r dX5_existing_31 ⟨k, rfl, hk, g17, rfl, rfl, rfl, rfl⟩
    · skip
      have g17 := zB_f h17
      exact z_throw (pc := 20) hC hE hX hRm (by rw [hlx]; exact hst) 0 0 (by decide) rfl (by decide +kernel) zm_1_229 zm_1_10 zat_0 znb_0 zgw_0 dX5_existing_20 dX5_existing_23 dX5_existing_24 dX5_existing_26 dX5_existing_29 ⟨Nat.le_of_ble_eq_true rfl, Nat.le_of_ble_eq_true rfl, Nat.le_of_ble_eq_true rfl, Nat.le_of_ble_eq_true rfl⟩ ⟨by decide, by decide⟩ ⟨⟨rfl, sBx_k hk g17⟩, rfl, rfl, rfl⟩
  · skip
    refine z_aload_n (pc := 0) hC 0 dX5_existing_0 rfl rfl z_isr_r ?_
    refine z_gF (pc := 1) hC 5 0 (t := 81) rfl (z_lt hC (by decide)) rfl inX5 (by decide) rfl zm_1_207 rfl dX5_existing_1 ?_
    refine z_iload_n (pc := 4) hC 1 dX5_existing_4 rfl rfl ?_
    refine z_cV (pc := 5) (st := []) hC [.int x] (kX4_atN C.2.1 g N I P J x hx) rfl (z_lt hC (by decide)) rfl zkX4_at zm_1_225 ⟨rfl, rfl⟩ rfl rfl hRm ⟨Nat.le_of_ble_eq_true rfl, Nat.le_of_ble_eq_true rfl⟩ (Nat.le_of_ble_eq_true rfl) ⟨Nat.zero_le _, Nat.zero_le _⟩ dX5_existing_5 ?_
    refine z_astore_n (pc := 8) (lv' := [(2, .null), (0, .ref (g.1 80)), (1, .int x)]) hC dX5_existing_8 rfl (by decide) z_isr_n rfl ?_
    refine z_aload_n (pc := 9) hC 0 dX5_existing_9 rfl rfl z_isr_n ?_
    refine z_ifnullN (pc := 10) (tgt := 20) hC dX5_existing_10 (by decide) ?_
    exact z_throw (pc := 20) hC hE hX hRm (by rw [hlx]; exact hst) 0 0 (by decide) rfl (by decide +kernel) zm_1_229 zm_1_10 zat_0 znb_0 zgw_0 dX5_existing_20 dX5_existing_23 dX5_existing_24 dX5_existing_26 dX5_existing_29 ⟨Nat.le_of_ble_eq_true rfl, Nat.le_of_ble_eq_true rfl, Nat.le_of_ble_eq_true rfl, Nat.le_of_ble_eq_true rfl⟩ ⟨by decide, by decide⟩ ⟨⟨rfl, sBx_n hx⟩, rfl, rfl, rfl⟩
set_option maxHeartbeats 4000000 in
set_option maxRecDepth 100000 in
theorem kX5_laidOut (lx : Launch) (hst : lx.stackTraces = false) (g : zG) (sa : Nat → Nat) (N : Nat) (I : Nat → Nat → Int32) (P : Nat → Nat → Option Nat) (J : Nat → Nat → Int64) {σ : zS} (hc : zCl σ I P) (b : Nat) (hb : b < 40) : z_CtX lx yX5_laidOut (zT yX5_laidOut cX5_laidOut 2 (Option.some (FieldType.object "FlexibleBoxes$Box"))) ({ frames := 6, cells := 1, slots := 6, locals := 163 } : Room) g sa N I P J [.ref (g.1 80), .ref (g.1 b)] (fun v I' P' J' => v = some (.ref (g.1 b)) ∧ sSh σ b = true ∧ zTr σ I' P' ∧ zAr σ I' P' ∧ I' 82 2 = 0 ∧ zRt I' ∧ zKp I P J I' P' J') (fun E I' P' J' => (E = zEn 1 ∧ sSh σ b = false) ∧ zCl σ I' P' ∧ zKp I P J I' P' J') 1 6 := by
  refine z_ofX (by decide) (Nat.le_of_ble_eq_true rfl) (lv0 := [(0, .ref (g.1 80)), (1, .ref (g.1 b))]) rfl ?_
  intro C hlx hC hE hRm hX
  have hC : zX C cX5_laidOut 2 RX5 (zT yX5_laidOut cX5_laidOut 2 (Option.some (FieldType.object "FlexibleBoxes$Box"))) g N := hC
  refine z_aload_n (pc := 0) hC 0 dX5_laidOut_0 rfl rfl z_isr_r ?_
  refine z_gF (pc := 1) hC 5 1 (t := 82) rfl (z_lt hC (by decide)) rfl inX5 (by decide) rfl zm_1_208 rfl dX5_laidOut_1 ?_
  refine z_callV (pc := 4) (st := []) hC [] ((kX2_arrange C.2.1 g N I P J hc.1 hc.2.1 hc.2.2)) rfl (z_lt hC (by decide)) rfl zkX2_arrange zm_2_86 ⟨rfl, rfl⟩ rfl rfl hRm ⟨Nat.le_of_ble_eq_true rfl, Nat.le_of_ble_eq_true rfl⟩ (Nat.le_of_ble_eq_true rfl) ⟨Nat.zero_le _, Nat.zero_le _⟩ dX5_laidOut_4 ?_
  intro v I2 P2 J2 hq
  obtain ⟨hv, hJ2, ht2, ha2, hs2, hr2, h95, hfp⟩ := hq
  subst hv
  have hkp : zKp I P J I2 P2 J2 := ⟨hJ2, h95, fun q j hq => hfp q j (by omega)⟩
  rw [hJ2] at hkp ⊢
  show zJ C g N 2 0 0 I2 P2 J 7 [(0, .ref (g.1 80)), (1, .ref (g.1 b))] []
  refine z_aload_n (pc := 7) hC 1 dX5_laidOut_7 rfl rfl z_isr_r ?_
  refine z_gI (pc := 8) hC 0 5 (x := zB (sSh σ b)) (z_shb hb) (z_ltb hC hb) rfl inX0 (by decide) rfl zm_1_51 ((ha2.1.1 b hb).2.1) dX5_laidOut_8 ?_
  refine z_if_ne (pc := 11) (tgt := 24) hC dX5_laidOut_11 (by decide) (fun h11 => ?_) (fun h11 => ?_)
  · skip
    have g11 := zB_t h11
    refine z_aload_n (pc := 24) hC 1 dX5_laidOut_24 rfl rfl z_isr_r ?_
    exact z_aretX (pc := 25) hC hE ⟨by decide, by decide⟩ z_isr_r dX5_laidOut_25 ⟨rfl, g11, ht2, ha2, hs2, hr2, hkp⟩
  · skip
    have g11 := zB_f h11
    exact z_throw (pc := 14) hC hE hX hRm (by rw [hlx]; exact hst) 1 5 (by decide) rfl (by decide +kernel) zm_2_61 zm_1_11 zat_1 znb_1 zgw_1 dX5_laidOut_14 dX5_laidOut_17 dX5_laidOut_18 dX5_laidOut_20 dX5_laidOut_23 ⟨Nat.le_of_ble_eq_true rfl, Nat.le_of_ble_eq_true rfl, Nat.le_of_ble_eq_true rfl, Nat.le_of_ble_eq_true rfl⟩ ⟨by decide, by decide⟩ ⟨⟨rfl, g11⟩, ⟨ht2, hr2, fun _ => ha2⟩, hkp⟩
/-- why a method of the face may throw: no such box; a hidden one -/
def zc0 (σ : zS) (x : Int32) (E : String) : Prop := E = zEn 0 ∧ ¬ sBx σ x
def zc1 (σ : zS) (x : Int32) (E : String) : Prop := E = zEn 1 ∧ ∃ b, x = nI b ∧ b < 40 ∧ sEx σ b = true ∧ sSh σ b = false
def zXp (σ : zS) (I : Nat → Nat → Int32) (P : Nat → Nat → Option Nat) (J : Nat → Nat → Int64) (c : String → Prop) : String → (Nat → Nat → Int32) → (Nat → Nat → Option Nat) → (Nat → Nat → Int64) → Prop := fun E I' P' J' => c E ∧ zCl σ I' P' ∧ zKp I P J I' P' J'
/-- .. and what a method that asks for a box's layout answers -/
def zGt (σ : zS) (x : Int32) (f : Nat → Int32) (I : Nat → Nat → Int32) (P : Nat → Nat → Option Nat) (J : Nat → Nat → Int64) : Option Value → (Nat → Nat → Int32) → (Nat → Nat → Option Nat) → (Nat → Nat → Int64) → Prop := fun v I' P' J' => (∃ b, x = nI b ∧ sSh σ b = true ∧ v = some (.int (f b))) ∧ zCl σ I' P' ∧ zKp I P J I' P' J'
set_option maxHeartbeats 4000000 in
set_option maxRecDepth 100000 in
theorem kX5_x (lx : Launch) (hst : lx.stackTraces = false) (g : zG) (sa : Nat → Nat) (N : Nat) (I : Nat → Nat → Int32) (P : Nat → Nat → Option Nat) (J : Nat → Nat → Int64) {σ : zS} (hc : zCl σ I P) (x : Int32) : z_CtX lx yX5_x (zT yX5_x cX5_x 2 (Option.some FieldType.int)) ({ frames := 7, cells := 2, slots := 12, locals := 184 } : Room) g sa N I P J [.ref (g.1 80), .int x] (zGt σ x (fun b => sX σ b) I P J) (zXp σ I P J (fun E => zc0 σ x E ∨ zc1 σ x E)) 2 12 := by
  refine z_ofX (by decide) (Nat.le_of_ble_eq_true rfl) (lv0 := [(0, .ref (g.1 80)), (1, .int x)]) rfl ?_
  intro C hlx hC hE hRm hX
  have hC : zX C cX5_x 2 RX5 (zT yX5_x cX5_x 2 (Option.some FieldType.int)) g N := hC
  refine z_aload_n (pc := 0) hC 0 dX5_x_0 rfl rfl z_isr_r ?_
  refine z_aload_n (pc := 1) hC 0 dX5_x_1 rfl rfl z_isr_r ?_
  refine z_iload_n (pc := 2) hC 1 dX5_x_2 rfl rfl ?_
  refine z_callVX (pc := 3) (st := [.ref (g.1 80)]) hC hE hX [.int x] (kX5_existing C.2.1 (by rw [hlx]; exact hst) g sa N I P J hc.1 x) rfl (z_lt hC (by decide)) rfl zkX5_existing zm_1_221 ⟨rfl, rfl⟩ rfl rfl hRm ⟨Nat.le_of_ble_eq_true rfl, Nat.le_of_ble_eq_true rfl⟩ (Nat.le_of_ble_eq_true rfl) ⟨Nat.le_of_ble_eq_true rfl, Nat.le_of_ble_eq_true rfl⟩ ⟨by decide, by decide⟩ dX5_x_3 (fun E I' P' J' h => by obtain ⟨h1, hI', hP', hJ'⟩ := h; rw [hI', hP', hJ']; exact ⟨Or.inl h1, hc, zKp.rf⟩) ?_
  intro v I' P' J' hq
  obtain ⟨b, rfl, hb, heb, hv, hI', hP', hJ'⟩ := hq
  subst hv
  rw [hI', hP', hJ']
  show zJ C g N 2 1 6 I P J 6 [(0, .ref (g.1 80)), (1, .int (nI b))] [.ref (g.1 b), .ref (g.1 80)]
  refine z_callVX (pc := 6) (st := []) hC hE hX [.ref (g.1 b)] (kX5_laidOut C.2.1 (by rw [hlx]; exact hst) g sa N I P J hc b hb) rfl (z_lt hC (by decide)) rfl zkX5_laidOut zm_3_71 ⟨rfl, rfl⟩ rfl rfl hRm ⟨Nat.le_of_ble_eq_true rfl, Nat.le_of_ble_eq_true rfl⟩ (Nat.le_of_ble_eq_true rfl) ⟨Nat.le_of_ble_eq_true rfl, Nat.le_of_ble_eq_true rfl⟩ ⟨by decide, by decide⟩ dX5_x_6 (fun E I' P' J' h => ⟨Or.inr ⟨h.1.1, b, rfl, hb, heb, h.1.2⟩, h.2⟩) ?_
  intro v I2 P2 J2 hq
  obtain ⟨hv, hs, ht2, ha2, hs2, hr2, hkp⟩ := hq
  subst hv
  show zJ C g N 2 2 12 I2 P2 J2 9 [(0, .ref (g.1 80)), (1, .int (nI b))] [.ref (g.1 b)]
  refine z_gI (pc := 9) hC 0 12 (x := sX σ b) (z_shb hb) (z_ltb hC hb) rfl inX0 (by decide) rfl zm_1_66 (ha2.2 b hs).2.2.1 dX5_x_9 ?_
  exact z_iretX (pc := 12) hC hE ⟨by decide, by decide⟩ dX5_x_12 ⟨⟨b, rfl, hs, rfl⟩, ⟨ht2, hr2, fun _ => ha2⟩, hkp⟩
set_option maxHeartbeats 4000000 in
set_option maxRecDepth 100000 in
theorem kX5_y (lx : Launch) (hst : lx.stackTraces = false) (g : zG) (sa : Nat → Nat) (N : Nat) (I : Nat → Nat → Int32) (P : Nat → Nat → Option Nat) (J : Nat → Nat → Int64) {σ : zS} (hc : zCl σ I P) (x : Int32) : z_CtX lx yX5_y (zT yX5_y cX5_y 2 (Option.some FieldType.int)) ({ frames := 7, cells := 2, slots := 12, locals := 184 } : Room) g sa N I P J [.ref (g.1 80), .int x] (zGt σ x (fun b => sY σ b) I P J) (zXp σ I P J (fun E => zc0 σ x E ∨ zc1 σ x E)) 2 12 := by
  refine z_ofX (by decide) (Nat.le_of_ble_eq_true rfl) (lv0 := [(0, .ref (g.1 80)), (1, .int x)]) rfl ?_
  intro C hlx hC hE hRm hX
  have hC : zX C cX5_y 2 RX5 (zT yX5_y cX5_y 2 (Option.some FieldType.int)) g N := hC
  refine z_aload_n (pc := 0) hC 0 dX5_y_0 rfl rfl z_isr_r ?_
  refine z_aload_n (pc := 1) hC 0 dX5_y_1 rfl rfl z_isr_r ?_
  refine z_iload_n (pc := 2) hC 1 dX5_y_2 rfl rfl ?_
  refine z_callVX (pc := 3) (st := [.ref (g.1 80)]) hC hE hX [.int x] (kX5_existing C.2.1 (by rw [hlx]; exact hst) g sa N I P J hc.1 x) rfl (z_lt hC (by decide)) rfl zkX5_existing zm_1_221 ⟨rfl, rfl⟩ rfl rfl hRm ⟨Nat.le_of_ble_eq_true rfl, Nat.le_of_ble_eq_true rfl⟩ (Nat.le_of_ble_eq_true rfl) ⟨Nat.le_of_ble_eq_true rfl, Nat.le_of_ble_eq_true rfl⟩ ⟨by decide, by decide⟩ dX5_y_3 (fun E I' P' J' h => by obtain ⟨h1, hI', hP', hJ'⟩ := h; rw [hI', hP', hJ']; exact ⟨Or.inl h1, hc, zKp.rf⟩) ?_
  intro v I' P' J' hq
  obtain ⟨b, rfl, hb, heb, hv, hI', hP', hJ'⟩ := hq
  subst hv
  rw [hI', hP', hJ']
  show zJ C g N 2 1 6 I P J 6 [(0, .ref (g.1 80)), (1, .int (nI b))] [.ref (g.1 b), .ref (g.1 80)]
  refine z_callVX (pc := 6) (st := []) hC hE hX [.ref (g.1 b)] (kX5_laidOut C.2.1 (by rw [hlx]; exact hst) g sa N I P J hc b hb) rfl (z_lt hC (by decide)) rfl zkX5_laidOut zm_3_71 ⟨rfl, rfl⟩ rfl rfl hRm ⟨Nat.le_of_ble_eq_true rfl, Nat.le_of_ble_eq_true rfl⟩ (Nat.le_of_ble_eq_true rfl) ⟨Nat.le_of_ble_eq_true rfl, Nat.le_of_ble_eq_true rfl⟩ ⟨by decide, by decide⟩ dX5_y_6 (fun E I' P' J' h => ⟨Or.inr ⟨h.1.1, b, rfl, hb, heb, h.1.2⟩, h.2⟩) ?_
  intro v I2 P2 J2 hq
  obtain ⟨hv, hs, ht2, ha2, hs2, hr2, hkp⟩ := hq
  subst hv
  show zJ C g N 2 2 12 I2 P2 J2 9 [(0, .ref (g.1 80)), (1, .int (nI b))] [.ref (g.1 b)]
  refine z_gI (pc := 9) hC 0 13 (x := sY σ b) (z_shb hb) (z_ltb hC hb) rfl inX0 (by decide) rfl zm_1_69 (ha2.2 b hs).2.2.2.1 dX5_y_9 ?_
  exact z_iretX (pc := 12) hC hE ⟨by decide, by decide⟩ dX5_y_12 ⟨⟨b, rfl, hs, rfl⟩, ⟨ht2, hr2, fun _ => ha2⟩, hkp⟩
set_option maxHeartbeats 4000000 in
set_option maxRecDepth 100000 in
theorem kX5_width (lx : Launch) (hst : lx.stackTraces = false) (g : zG) (sa : Nat → Nat) (N : Nat) (I : Nat → Nat → Int32) (P : Nat → Nat → Option Nat) (J : Nat → Nat → Int64) {σ : zS} (hc : zCl σ I P) (x : Int32) : z_CtX lx yX5_width (zT yX5_width cX5_width 2 (Option.some FieldType.int)) ({ frames := 7, cells := 2, slots := 12, locals := 184 } : Room) g sa N I P J [.ref (g.1 80), .int x] (zGt σ x (fun b => sWD σ b) I P J) (zXp σ I P J (fun E => zc0 σ x E ∨ zc1 σ x E)) 2 12 := by
  refine z_ofX (by decide) (Nat.le_of_ble_eq_true rfl) (lv0 := [(0, .ref (g.1 80)), (1, .int x)]) rfl ?_
  intro C hlx hC hE hRm hX
  have hC : zX C cX5_width 2 RX5 (zT yX5_width cX5_width 2 (Option.some FieldType.int)) g N := hC
  refine z_aload_n (pc := 0) hC 0 dX5_width_0 rfl rfl z_isr_r ?_
  refine z_aload_n (pc := 1) hC 0 dX5_width_1 rfl rfl z_isr_r ?_
  refine z_iload_n (pc := 2) hC 1 dX5_width_2 rfl rfl ?_
  refine z_callVX (pc := 3) (st := [.ref (g.1 80)]) hC hE hX [.int x] (kX5_existing C.2.1 (by rw [hlx]; exact hst) g sa N I P J hc.1 x) rfl (z_lt hC (by decide)) rfl zkX5_existing zm_1_221 ⟨rfl, rfl⟩ rfl rfl hRm ⟨Nat.le_of_ble_eq_true rfl, Nat.le_of_ble_eq_true rfl⟩ (Nat.le_of_ble_eq_true rfl) ⟨Nat.le_of_ble_eq_true rfl, Nat.le_of_ble_eq_true rfl⟩ ⟨by decide, by decide⟩ dX5_width_3 (fun E I' P' J' h => by obtain ⟨h1, hI', hP', hJ'⟩ := h; rw [hI', hP', hJ']; exact ⟨Or.inl h1, hc, zKp.rf⟩) ?_
  intro v I' P' J' hq
  obtain ⟨b, rfl, hb, heb, hv, hI', hP', hJ'⟩ := hq
  subst hv
  rw [hI', hP', hJ']
  show zJ C g N 2 1 6 I P J 6 [(0, .ref (g.1 80)), (1, .int (nI b))] [.ref (g.1 b), .ref (g.1 80)]
  refine z_callVX (pc := 6) (st := []) hC hE hX [.ref (g.1 b)] (kX5_laidOut C.2.1 (by rw [hlx]; exact hst) g sa N I P J hc b hb) rfl (z_lt hC (by decide)) rfl zkX5_laidOut zm_3_71 ⟨rfl, rfl⟩ rfl rfl hRm ⟨Nat.le_of_ble_eq_true rfl, Nat.le_of_ble_eq_true rfl⟩ (Nat.le_of_ble_eq_true rfl) ⟨Nat.le_of_ble_eq_true rfl, Nat.le_of_ble_eq_true rfl⟩ ⟨by decide, by decide⟩ dX5_width_6 (fun E I' P' J' h => ⟨Or.inr ⟨h.1.1, b, rfl, hb, heb, h.1.2⟩, h.2⟩) ?_
  intro v I2 P2 J2 hq
  obtain ⟨hv, hs, ht2, ha2, hs2, hr2, hkp⟩ := hq
  subst hv
  show zJ C g N 2 2 12 I2 P2 J2 9 [(0, .ref (g.1 80)), (1, .int (nI b))] [.ref (g.1 b)]
  refine z_gI (pc := 9) hC 0 14 (x := sWD σ b) (z_shb hb) (z_ltb hC hb) rfl inX0 (by decide) rfl zm_1_74 (ha2.2 b hs).2.2.2.2.1 dX5_width_9 ?_
  exact z_iretX (pc := 12) hC hE ⟨by decide, by decide⟩ dX5_width_12 ⟨⟨b, rfl, hs, rfl⟩, ⟨ht2, hr2, fun _ => ha2⟩, hkp⟩
set_option maxHeartbeats 4000000 in
set_option maxRecDepth 100000 in
theorem kX5_height (lx : Launch) (hst : lx.stackTraces = false) (g : zG) (sa : Nat → Nat) (N : Nat) (I : Nat → Nat → Int32) (P : Nat → Nat → Option Nat) (J : Nat → Nat → Int64) {σ : zS} (hc : zCl σ I P) (x : Int32) : z_CtX lx yX5_height (zT yX5_height cX5_height 2 (Option.some FieldType.int)) ({ frames := 7, cells := 2, slots := 12, locals := 184 } : Room) g sa N I P J [.ref (g.1 80), .int x] (zGt σ x (fun b => sHT σ b) I P J) (zXp σ I P J (fun E => zc0 σ x E ∨ zc1 σ x E)) 2 12 := by
  refine z_ofX (by decide) (Nat.le_of_ble_eq_true rfl) (lv0 := [(0, .ref (g.1 80)), (1, .int x)]) rfl ?_
  intro C hlx hC hE hRm hX
  have hC : zX C cX5_height 2 RX5 (zT yX5_height cX5_height 2 (Option.some FieldType.int)) g N := hC
  refine z_aload_n (pc := 0) hC 0 dX5_height_0 rfl rfl z_isr_r ?_
  refine z_aload_n (pc := 1) hC 0 dX5_height_1 rfl rfl z_isr_r ?_
  refine z_iload_n (pc := 2) hC 1 dX5_height_2 rfl rfl ?_
  refine z_callVX (pc := 3) (st := [.ref (g.1 80)]) hC hE hX [.int x] (kX5_existing C.2.1 (by rw [hlx]; exact hst) g sa N I P J hc.1 x) rfl (z_lt hC (by decide)) rfl zkX5_existing zm_1_221 ⟨rfl, rfl⟩ rfl rfl hRm ⟨Nat.le_of_ble_eq_true rfl, Nat.le_of_ble_eq_true rfl⟩ (Nat.le_of_ble_eq_true rfl) ⟨Nat.le_of_ble_eq_true rfl, Nat.le_of_ble_eq_true rfl⟩ ⟨by decide, by decide⟩ dX5_height_3 (fun E I' P' J' h => by obtain ⟨h1, hI', hP', hJ'⟩ := h; rw [hI', hP', hJ']; exact ⟨Or.inl h1, hc, zKp.rf⟩) ?_
  intro v I' P' J' hq
  obtain ⟨b, rfl, hb, heb, hv, hI', hP', hJ'⟩ := hq
  subst hv
  rw [hI', hP', hJ']
  show zJ C g N 2 1 6 I P J 6 [(0, .ref (g.1 80)), (1, .int (nI b))] [.ref (g.1 b), .ref (g.1 80)]
  refine z_callVX (pc := 6) (st := []) hC hE hX [.ref (g.1 b)] (kX5_laidOut C.2.1 (by rw [hlx]; exact hst) g sa N I P J hc b hb) rfl (z_lt hC (by decide)) rfl zkX5_laidOut zm_3_71 ⟨rfl, rfl⟩ rfl rfl hRm ⟨Nat.le_of_ble_eq_true rfl, Nat.le_of_ble_eq_true rfl⟩ (Nat.le_of_ble_eq_true rfl) ⟨Nat.le_of_ble_eq_true rfl, Nat.le_of_ble_eq_true rfl⟩ ⟨by decide, by decide⟩ dX5_height_6 (fun E I' P' J' h => ⟨Or.inr ⟨h.1.1, b, rfl, hb, heb, h.1.2⟩, h.2⟩) ?_
  intro v I2 P2 J2 hq
  obtain ⟨hv, hs, ht2, ha2, hs2, hr2, hkp⟩ := hq
  subst hv
  show zJ C g N 2 2 12 I2 P2 J2 9 [(0, .ref (g.1 80)), (1, .int (nI b))] [.ref (g.1 b)]
  refine z_gI (pc := 9) hC 0 15 (x := sHT σ b) (z_shb hb) (z_ltb hC hb) rfl inX0 (by decide) rfl zm_1_77 (ha2.2 b hs).2.2.2.2.2.1 dX5_height_9 ?_
  exact z_iretX (pc := 12) hC hE ⟨by decide, by decide⟩ dX5_height_12 ⟨⟨b, rfl, hs, rfl⟩, ⟨ht2, hr2, fun _ => ha2⟩, hkp⟩
set_option maxHeartbeats 4000000 in
set_option maxRecDepth 100000 in
theorem kX5_lines (lx : Launch) (hst : lx.stackTraces = false) (g : zG) (sa : Nat → Nat) (N : Nat) (I : Nat → Nat → Int32) (P : Nat → Nat → Option Nat) (J : Nat → Nat → Int64) {σ : zS} (hc : zCl σ I P) (x : Int32) : z_CtX lx yX5_lines (zT yX5_lines cX5_lines 2 (Option.some FieldType.int)) ({ frames := 7, cells := 2, slots := 12, locals := 184 } : Room) g sa N I P J [.ref (g.1 80), .int x] (zGt σ x (fun b => sLC σ (sNW σ) b (sWD σ b)) I P J) (zXp σ I P J (fun E => zc0 σ x E ∨ zc1 σ x E)) 2 12 := by
  refine z_ofX (by decide) (Nat.le_of_ble_eq_true rfl) (lv0 := [(0, .ref (g.1 80)), (1, .int x)]) rfl ?_
  intro C hlx hC hE hRm hX
  have hC : zX C cX5_lines 2 RX5 (zT yX5_lines cX5_lines 2 (Option.some FieldType.int)) g N := hC
  refine z_aload_n (pc := 0) hC 0 dX5_lines_0 rfl rfl z_isr_r ?_
  refine z_aload_n (pc := 1) hC 0 dX5_lines_1 rfl rfl z_isr_r ?_
  refine z_iload_n (pc := 2) hC 1 dX5_lines_2 rfl rfl ?_
  refine z_callVX (pc := 3) (st := [.ref (g.1 80)]) hC hE hX [.int x] (kX5_existing C.2.1 (by rw [hlx]; exact hst) g sa N I P J hc.1 x) rfl (z_lt hC (by decide)) rfl zkX5_existing zm_1_221 ⟨rfl, rfl⟩ rfl rfl hRm ⟨Nat.le_of_ble_eq_true rfl, Nat.le_of_ble_eq_true rfl⟩ (Nat.le_of_ble_eq_true rfl) ⟨Nat.le_of_ble_eq_true rfl, Nat.le_of_ble_eq_true rfl⟩ ⟨by decide, by decide⟩ dX5_lines_3 (fun E I' P' J' h => by obtain ⟨h1, hI', hP', hJ'⟩ := h; rw [hI', hP', hJ']; exact ⟨Or.inl h1, hc, zKp.rf⟩) ?_
  intro v I' P' J' hq
  obtain ⟨b, rfl, hb, heb, hv, hI', hP', hJ'⟩ := hq
  subst hv
  rw [hI', hP', hJ']
  show zJ C g N 2 1 6 I P J 6 [(0, .ref (g.1 80)), (1, .int (nI b))] [.ref (g.1 b), .ref (g.1 80)]
  refine z_callVX (pc := 6) (st := []) hC hE hX [.ref (g.1 b)] (kX5_laidOut C.2.1 (by rw [hlx]; exact hst) g sa N I P J hc b hb) rfl (z_lt hC (by decide)) rfl zkX5_laidOut zm_3_71 ⟨rfl, rfl⟩ rfl rfl hRm ⟨Nat.le_of_ble_eq_true rfl, Nat.le_of_ble_eq_true rfl⟩ (Nat.le_of_ble_eq_true rfl) ⟨Nat.le_of_ble_eq_true rfl, Nat.le_of_ble_eq_true rfl⟩ ⟨by decide, by decide⟩ dX5_lines_6 (fun E I' P' J' h => ⟨Or.inr ⟨h.1.1, b, rfl, hb, heb, h.1.2⟩, h.2⟩) ?_
  intro v I2 P2 J2 hq
  obtain ⟨hv, hs, ht2, ha2, hs2, hr2, hkp⟩ := hq
  subst hv
  show zJ C g N 2 2 12 I2 P2 J2 9 [(0, .ref (g.1 80)), (1, .int (nI b))] [.ref (g.1 b)]
  refine z_gI (pc := 9) hC 0 16 (x := sLC σ (sNW σ) b (sWD σ b)) (z_shb hb) (z_ltb hC hb) rfl inX0 (by decide) rfl zm_1_79 (ha2.2 b hs).2.2.2.2.2.2.1 dX5_lines_9 ?_
  exact z_iretX (pc := 12) hC hE ⟨by decide, by decide⟩ dX5_lines_12 ⟨⟨b, rfl, hs, rfl⟩, ⟨ht2, hr2, fun _ => ha2⟩, hkp⟩
set_option maxHeartbeats 4000000 in
set_option maxRecDepth 100000 in
theorem kX5_lineOf (lx : Launch) (hst : lx.stackTraces = false) (g : zG) (sa : Nat → Nat) (N : Nat) (I : Nat → Nat → Int32) (P : Nat → Nat → Option Nat) (J : Nat → Nat → Int64) {σ : zS} (hc : zCl σ I P) (x : Int32) : z_CtX lx yX5_lineOf (zT yX5_lineOf cX5_lineOf 2 (Option.some FieldType.int)) ({ frames := 7, cells := 2, slots := 12, locals := 184 } : Room) g sa N I P J [.ref (g.1 80), .int x] (zGt σ x (fun b => nI (sLi σ b)) I P J) (zXp σ I P J (fun E => zc0 σ x E ∨ zc1 σ x E)) 2 12 := by
  refine z_ofX (by decide) (Nat.le_of_ble_eq_true rfl) (lv0 := [(0, .ref (g.1 80)), (1, .int x)]) rfl ?_
  intro C hlx hC hE hRm hX
  have hC : zX C cX5_lineOf 2 RX5 (zT yX5_lineOf cX5_lineOf 2 (Option.some FieldType.int)) g N := hC
  refine z_aload_n (pc := 0) hC 0 dX5_lineOf_0 rfl rfl z_isr_r ?_
  refine z_aload_n (pc := 1) hC 0 dX5_lineOf_1 rfl rfl z_isr_r ?_
  refine z_iload_n (pc := 2) hC 1 dX5_lineOf_2 rfl rfl ?_
  refine z_callVX (pc := 3) (st := [.ref (g.1 80)]) hC hE hX [.int x] (kX5_existing C.2.1 (by rw [hlx]; exact hst) g sa N I P J hc.1 x) rfl (z_lt hC (by decide)) rfl zkX5_existing zm_1_221 ⟨rfl, rfl⟩ rfl rfl hRm ⟨Nat.le_of_ble_eq_true rfl, Nat.le_of_ble_eq_true rfl⟩ (Nat.le_of_ble_eq_true rfl) ⟨Nat.le_of_ble_eq_true rfl, Nat.le_of_ble_eq_true rfl⟩ ⟨by decide, by decide⟩ dX5_lineOf_3 (fun E I' P' J' h => by obtain ⟨h1, hI', hP', hJ'⟩ := h; rw [hI', hP', hJ']; exact ⟨Or.inl h1, hc, zKp.rf⟩) ?_
  intro v I' P' J' hq
  obtain ⟨b, rfl, hb, heb, hv, hI', hP', hJ'⟩ := hq
  subst hv
  rw [hI', hP', hJ']
  show zJ C g N 2 1 6 I P J 6 [(0, .ref (g.1 80)), (1, .int (nI b))] [.ref (g.1 b), .ref (g.1 80)]
  refine z_callVX (pc := 6) (st := []) hC hE hX [.ref (g.1 b)] (kX5_laidOut C.2.1 (by rw [hlx]; exact hst) g sa N I P J hc b hb) rfl (z_lt hC (by decide)) rfl zkX5_laidOut zm_3_71 ⟨rfl, rfl⟩ rfl rfl hRm ⟨Nat.le_of_ble_eq_true rfl, Nat.le_of_ble_eq_true rfl⟩ (Nat.le_of_ble_eq_true rfl) ⟨Nat.le_of_ble_eq_true rfl, Nat.le_of_ble_eq_true rfl⟩ ⟨by decide, by decide⟩ dX5_lineOf_6 (fun E I' P' J' h => ⟨Or.inr ⟨h.1.1, b, rfl, hb, heb, h.1.2⟩, h.2⟩) ?_
  intro v I2 P2 J2 hq
  obtain ⟨hv, hs, ht2, ha2, hs2, hr2, hkp⟩ := hq
  subst hv
  show zJ C g N 2 2 12 I2 P2 J2 9 [(0, .ref (g.1 80)), (1, .int (nI b))] [.ref (g.1 b)]
  refine z_gI (pc := 9) hC 0 17 (x := nI (sLi σ b)) (z_shb hb) (z_ltb hC hb) rfl inX0 (by decide) rfl zm_1_81 (ha2.2 b hs).2.2.2.2.2.2.2 dX5_lineOf_9 ?_
  exact z_iretX (pc := 12) hC hE ⟨by decide, by decide⟩ dX5_lineOf_12 ⟨⟨b, rfl, hs, rfl⟩, ⟨ht2, hr2, fun _ => ha2⟩, hkp⟩
end ZFM
