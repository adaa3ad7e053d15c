section ZL1
def zB (c : Bool) : Int32 := if c = true then 1 else 0
theorem zB_f {c : Bool} (h : zB c = 0) : c = false := by cases c with | false => rfl | true => exact absurd h (by decide)
theorem zB_t {c : Bool} (h : ¬ zB c = 0) : c = true := by cases c with | true => rfl | false => exact absurd rfl h
theorem zB_01 (c : Bool) : zB c = 0 ∨ zB c = 1 := by cases c with | false => exact Or.inl rfl | true => exact Or.inr rfl
/-- limited(x, least, greatest) -/
def zlim (x lo hi : Int32) : Int32 := if lo < (if x < hi then x else hi) then (if x < hi then x else hi) else lo
def zgap (n gp : Int32) : Int32 := if 1 < n then (n - 1) * gp else 0
def zpos (x : Int32) : Int32 := if x < 0 then 0 else x
def zlimW (I : Nat → Nat → Int32) (P : Nat → Nat → Option Nat) (b : Nat) (x : Int32) : Int32 := if (P b 3).isNone = true then x else zlim x (I (40 + b) 12) (I (40 + b) 14)
def zlimH (I : Nat → Nat → Int32) (P : Nat → Nat → Option Nat) (b : Nat) (x : Int32) : Int32 := if (P b 3).isNone = true then x else zlim x (I (40 + b) 13) (I (40 + b) 15)
def zinW (I : Nat → Nat → Int32) (b : Nat) : Int32 := zpos (I b 14 - 2 * I (40 + b) 5)
def zinH (I : Nat → Nat → Int32) (b : Nat) : Int32 := zpos (I b 15 - 2 * I (40 + b) 5)
def zfix (I : Nat → Nat → Int32) (P : Nat → Nat → Option Nat) (b k : Nat) : Int32 := if (P b 3).isNone = true then -1 else I (40 + b) k
def zali (I : Nat → Nat → Int32) (P : Nat → Nat → Option Nat) (b : Nat) : Int32 := if I (40 + b) 16 = -1 then (match P b 3 with | none => I (40 + b) 16 | some p => I (40 + p) 3) else I (40 + b) 16
def zfit (w : Int32) : Int32 := if w / 8 < 1 then 1 else w / 8
def ztl (t w : Int32) : Int32 := (t + zfit w - 1) / zfit w
theorem zkX5_limited : z_pkS yX5_limited cX5_limited 4 (Option.some FieldType.int) 3 := ⟨zm_2_145, zm_1_1, zm_2_146, by decide, by decide, by decide +kernel⟩
theorem zkX5_gaps : z_pkS yX5_gaps cX5_gaps 2 (Option.some FieldType.int) 2 := ⟨zm_2_127, zm_1_1, zm_2_128, by decide, by decide, by decide +kernel⟩
theorem zkX5_isProperty : z_pkS yX5_isProperty cX5_isProperty 1 (Option.some FieldType.boolean) 1 := ⟨zm_3_31, zm_1_1, zm_3_32, by decide, by decide, by decide +kernel⟩
theorem zkX5_isViewportLength : z_pkS yX5_isViewportLength cX5_isViewportLength 1 (Option.some FieldType.boolean) 1 := ⟨zm_3_64, zm_1_1, zm_3_65, by decide, by decide, by decide +kernel⟩
theorem zkX0_of : z_pkV yX0_of cX0_of 2 (Option.some FieldType.int) RX0 1 := ⟨zm_2_99, zm_2_100, zm_1_3, zm_2_101, rfl, by decide, by decide, by decide +kernel⟩
theorem zkX0_change : z_pkV yX0_change cX0_change 4 (Option.some FieldType.int) RX0 2 := ⟨zm_3_55, zm_3_56, zm_1_3, zm_3_57, rfl, by decide, by decide, by decide +kernel⟩
theorem zkX0_isRoot : z_pkV yX0_isRoot cX0_isRoot 1 (Option.some FieldType.boolean) RX0 0 := ⟨zm_2_119, zm_2_120, zm_1_3, zm_2_121, rfl, by decide, by decide, by decide +kernel⟩
theorem zkX0_isColumn : z_pkV yX0_isColumn cX0_isColumn 1 (Option.some FieldType.boolean) RX0 0 := ⟨zm_2_137, zm_2_138, zm_1_3, zm_2_139, rfl, by decide, by decide, by decide +kernel⟩
theorem zkX0_wraps : z_pkV yX0_wraps cX0_wraps 1 (Option.some FieldType.boolean) RX0 0 := ⟨zm_2_174, zm_2_175, zm_1_3, zm_2_176, rfl, by decide, by decide, by decide +kernel⟩
theorem zkX0_unlink : z_pkV yX0_unlink cX0_unlink 1 (Option.none : Option FieldType) RX0 0 := ⟨zm_2_95, zm_2_96, zm_1_3, zm_2_97, rfl, by decide, by decide, by decide +kernel⟩
theorem zkX0_adopt : z_pkV yX0_adopt cX0_adopt 4 (Option.none : Option FieldType) RX0 1 := ⟨zm_2_103, zm_2_104, zm_1_3, zm_2_105, rfl, by decide, by decide, by decide +kernel⟩
theorem zkX0_innerWidth : z_pkV yX0_innerWidth cX0_innerWidth 1 (Option.some FieldType.int) RX0 0 := ⟨zm_2_155, zm_2_156, zm_1_3, zm_2_157, rfl, by decide, by decide, by decide +kernel⟩
theorem zkX0_innerHeight : z_pkV yX0_innerHeight cX0_innerHeight 1 (Option.some FieldType.int) RX0 0 := ⟨zm_3_8, zm_3_9, zm_1_3, zm_3_10, rfl, by decide, by decide, by decide +kernel⟩
theorem zkX0_margins : z_pkV yX0_margins cX0_margins 1 (Option.some FieldType.int) RX0 0 := ⟨zm_2_130, zm_2_131, zm_1_3, zm_2_132, rfl, by decide, by decide, by decide +kernel⟩
theorem zkX0_limitWidth : z_pkV yX0_limitWidth cX0_limitWidth 2 (Option.some FieldType.int) RX0 1 := ⟨zm_2_141, zm_2_142, zm_1_3, zm_2_143, rfl, by decide, by decide, by decide +kernel⟩
theorem zkX0_limitHeight : z_pkV yX0_limitHeight cX0_limitHeight 2 (Option.some FieldType.int) RX0 1 := ⟨zm_3_0, zm_3_1, zm_1_3, zm_3_2, rfl, by decide, by decide, by decide +kernel⟩
theorem zkX0_fixedSize : z_pkV yX0_fixedSize cX0_fixedSize 2 (Option.some FieldType.int) RX0 1 := ⟨zm_2_115, zm_2_116, zm_1_3, zm_2_117, rfl, by decide, by decide, by decide +kernel⟩
theorem zkX0_alignment : z_pkV yX0_alignment cX0_alignment 1 (Option.some FieldType.int) RX0 0 := ⟨zm_2_160, zm_2_161, zm_1_3, zm_2_162, rfl, by decide, by decide, by decide +kernel⟩
theorem zkX0_textLines : z_pkV yX0_textLines cX0_textLines 2 (Option.some FieldType.int) RX0 0 := ⟨zm_2_229, zm_2_230, zm_1_3, zm_2_231, rfl, by decide, by decide, by decide +kernel⟩
theorem zkX0_covers : z_pkV yX0_covers cX0_covers 3 (Option.some FieldType.boolean) RX0 2 := ⟨zm_3_115, zm_3_116, zm_1_3, zm_3_117, rfl, by decide, by decide, by decide +kernel⟩
theorem zkX0_begin : z_pkV yX0_begin cX0_begin 3 (Option.none : Option FieldType) RX0 1 := ⟨zm_1_121, zm_1_122, zm_1_3, zm_1_123, rfl, by decide, by decide, by decide +kernel⟩
set_option maxHeartbeats 4000000 in
set_option maxRecDepth 100000 in
theorem kX5_limited (lx : Launch) (g : zG) (N : Nat) (I : Nat → Nat → Int32) (P : Nat → Nat → Option Nat) (J : Nat → Nat → Int64) (x lo hi : Int32) : z_Ct lx yX5_limited (zT yX5_limited cX5_limited 4 (Option.some FieldType.int)) ({ frames := 0, cells := 0, slots := 0, locals := 0 } : Room) g N I P J [.int x, .int lo, .int hi] (zMu (some (.int (zlim x lo hi))) I P J) 0 0 := by
  refine z_of (by decide) (Nat.le_of_ble_eq_true rfl) (lv0 := [(0, .int x), (1, .int lo), (2, .int hi)]) rfl ?_
  intro C hlx hC hE hRm
  have hC : zX C cX5_limited 4 RX5 (zT yX5_limited cX5_limited 4 (Option.some FieldType.int)) g N := hC
  refine z_iload_n (pc := 0) hC 0 dX5_limited_0 rfl rfl ?_
  refine z_iload_n (pc := 1) hC 2 dX5_limited_1 rfl rfl ?_
  refine z_icmp_ge (pc := 2) (tgt := 9) hC dX5_limited_2 (by decide) (fun h2 => ?_) (fun h2 => ?_)
  · skip
    have g2 := Int32.not_lt.mpr h2
    refine z_iload_n (pc := 9) hC 2 dX5_limited_9 rfl rfl ?_
    refine z_istore_n (pc := 10) (lv' := [(3, .int hi), (0, .int x), (1, .int lo), (2, .int hi)]) hC dX5_limited_10 rfl (by decide) rfl ?_
    refine z_iload_n (pc := 11) hC 0 dX5_limited_11 rfl rfl ?_
    refine z_iload_n (pc := 12) hC 2 dX5_limited_12 rfl rfl ?_
    refine z_icmp_le (pc := 13) (tgt := 20) hC dX5_limited_13 (by decide) (fun h13 => ?_) (fun h13 => ?_)
    · skip
      have g13 := Int32.not_lt.mpr h13
      refine z_iload_n (pc := 20) hC 2 dX5_limited_20 rfl rfl ?_
      exact z_iret (pc := 21) hC hE dX5_limited_21 (zMu_i (by simp [zlim, h2, g2, h13, g13]))
    · skip
      have g13 := Int32.not_le.mp h13
      refine z_iload_n (pc := 16) hC 0 dX5_limited_16 rfl rfl ?_
      refine z_goto (pc := 17) (tgt := 21) hC dX5_limited_17 (by decide) ?_
      exact z_iret (pc := 21) hC hE dX5_limited_21 (zMu_i (by simp [zlim, h2, g2, h13, g13]))
  · skip
    have g2 := Int32.not_le.mp h2
    refine z_iload_n (pc := 5) hC 0 dX5_limited_5 rfl rfl ?_
    refine z_goto (pc := 6) (tgt := 10) hC dX5_limited_6 (by decide) ?_
    refine z_istore_n (pc := 10) (lv' := [(3, .int x), (0, .int x), (1, .int lo), (2, .int hi)]) hC dX5_limited_10 rfl (by decide) rfl ?_
    refine z_iload_n (pc := 11) hC 0 dX5_limited_11 rfl rfl ?_
    refine z_iload_n (pc := 12) hC 2 dX5_limited_12 rfl rfl ?_
    refine z_icmp_le (pc := 13) (tgt := 20) hC dX5_limited_13 (by decide) (fun h13 => ?_) (fun h13 => ?_)
    · skip
      have g13 := Int32.not_lt.mpr h13
      refine z_iload_n (pc := 20) hC 2 dX5_limited_20 rfl rfl ?_
      exact z_iret (pc := 21) hC hE dX5_limited_21 (zMu_i (by simp [zlim, h2, g2, h13, g13]))
    · skip
      have g13 := Int32.not_le.mp h13
      refine z_iload_n (pc := 16) hC 0 dX5_limited_16 rfl rfl ?_
      refine z_goto (pc := 17) (tgt := 21) hC dX5_limited_17 (by decide) ?_
      exact z_iret (pc := 21) hC hE dX5_limited_21 (zMu_i (by simp [zlim, h2, g2, h13, g13]))
set_option maxHeartbeats 4000000 in
set_option maxRecDepth 100000 in
theorem kX5_gaps (lx : Launch) (g : zG) (N : Nat) (I : Nat → Nat → Int32) (P : Nat → Nat → Option Nat) (J : Nat → Nat → Int64) (n gp : Int32) : z_Ct lx yX5_gaps (zT yX5_gaps cX5_gaps 2 (Option.some FieldType.int)) ({ frames := 0, cells := 0, slots := 0, locals := 0 } : Room) g N I P J [.int n, .int gp] (zMu (some (.int (zgap n gp))) I P J) 0 0 := by
  refine z_of (by decide) (Nat.le_of_ble_eq_true rfl) (lv0 := [(0, .int n), (1, .int gp)]) rfl ?_
  intro C hlx hC hE hRm
  have hC : zX C cX5_gaps 2 RX5 (zT yX5_gaps cX5_gaps 2 (Option.some FieldType.int)) g N := hC
  refine z_iload_n (pc := 0) hC 0 dX5_gaps_0 rfl rfl ?_
  refine z_iconst (pc := 1) (v := 1) hC dX5_gaps_1 rfl ?_
  refine z_icmp_le (pc := 2) (tgt := 13) hC dX5_gaps_2 (by decide) (fun h2 => ?_) (fun h2 => ?_)
  · skip
    have g2 := Int32.not_lt.mpr h2
    refine z_iconst (pc := 13) (v := 0) hC dX5_gaps_13 rfl ?_
    exact z_iret (pc := 14) hC hE dX5_gaps_14 (zMu_i (by simp [zgap, h2, g2]))
  · skip
    have g2 := Int32.not_le.mp h2
    refine z_iload_n (pc := 5) hC 0 dX5_gaps_5 rfl rfl ?_
    refine z_iconst (pc := 6) (v := 1) hC dX5_gaps_6 rfl ?_
    refine z_isub (pc := 7) hC dX5_gaps_7 ?_
    refine z_iload_n (pc := 8) hC 1 dX5_gaps_8 rfl rfl ?_
    refine z_imul (pc := 9) hC dX5_gaps_9 ?_
    refine z_goto (pc := 10) (tgt := 14) hC dX5_gaps_10 (by decide) ?_
    exact z_iret (pc := 14) hC hE dX5_gaps_14 (zMu_i (by simp [zgap, h2, g2]))
set_option maxHeartbeats 4000000 in
set_option maxRecDepth 100000 in
theorem kX5_isProperty (lx : Launch) (g : zG) (N : Nat) (I : Nat → Nat → Int32) (P : Nat → Nat → Option Nat) (J : Nat → Nat → Int64) (p : Int32) : z_Ct lx yX5_isProperty (zT yX5_isProperty cX5_isProperty 1 (Option.some FieldType.boolean)) ({ frames := 0, cells := 0, slots := 0, locals := 0 } : Room) g N I P J [.int p] (zMu (some (.int (zB (decide (0 ≤ p ∧ p < 20))))) I P J) 0 0 := by
  refine z_of (by decide) (Nat.le_of_ble_eq_true rfl) (lv0 := [(0, .int p)]) rfl ?_
  intro C hlx hC hE hRm
  have hC : zX C cX5_isProperty 1 RX5 (zT yX5_isProperty cX5_isProperty 1 (Option.some FieldType.boolean)) g N := hC
  refine z_iload_n (pc := 0) hC 0 dX5_isProperty_0 rfl rfl ?_
  refine z_if_lt (pc := 1) (tgt := 14) hC dX5_isProperty_1 (by decide) (fun h1 => ?_) (fun h1 => ?_)
  · skip
    have g1 := Int32.not_le.mpr h1
    refine z_iconst (pc := 14) (v := 0) hC dX5_isProperty_14 rfl ?_
    exact z_zret (pc := 15) hC hE (z_b01 (Or.inl rfl)) dX5_isProperty_15 (zMu_i (by simp [zB, h1, g1]))
  · skip
    have g1 := Int32.not_lt.mp h1
    refine z_iload_n (pc := 4) hC 0 dX5_isProperty_4 rfl rfl ?_
    refine z_bipush (pc := 5) (v := 20) hC dX5_isProperty_5 rfl ?_
    refine z_icmp_ge (pc := 7) (tgt := 14) hC dX5_isProperty_7 (by decide) (fun h7 => ?_) (fun h7 => ?_)
    · skip
      have g7 := Int32.not_lt.mpr h7
      refine z_iconst (pc := 14) (v := 0) hC dX5_isProperty_14 rfl ?_
      exact z_zret (pc := 15) hC hE (z_b01 (Or.inl rfl)) dX5_isProperty_15 (zMu_i (by simp [zB, h1, g1, h7, g7]))
    · skip
      have g7 := Int32.not_le.mp h7
      refine z_iconst (pc := 10) (v := 1) hC dX5_isProperty_10 rfl ?_
      refine z_goto (pc := 11) (tgt := 15) hC dX5_isProperty_11 (by decide) ?_
      exact z_zret (pc := 15) hC hE (z_b01 (Or.inr rfl)) dX5_isProperty_15 (zMu_i (by simp [zB, h1, g1, h7, g7]))
set_option maxHeartbeats 4000000 in
set_option maxRecDepth 100000 in
theorem kX5_isViewportLength (lx : Launch) (g : zG) (N : Nat) (I : Nat → Nat → Int32) (P : Nat → Nat → Option Nat) (J : Nat → Nat → Int64) (p : Int32) : z_Ct lx yX5_isViewportLength (zT yX5_isViewportLength cX5_isViewportLength 1 (Option.some FieldType.boolean)) ({ frames := 0, cells := 0, slots := 0, locals := 0 } : Room) g N I P J [.int p] (zMu (some (.int (zB (decide (0 ≤ p ∧ p ≤ 2000))))) I P J) 0 0 := by
  refine z_of (by decide) (Nat.le_of_ble_eq_true rfl) (lv0 := [(0, .int p)]) rfl ?_
  intro C hlx hC hE hRm
  have hC : zX C cX5_isViewportLength 1 RX5 (zT yX5_isViewportLength cX5_isViewportLength 1 (Option.some FieldType.boolean)) g N := hC
  refine z_iload_n (pc := 0) hC 0 dX5_isViewportLength_0 rfl rfl ?_
  refine z_if_lt (pc := 1) (tgt := 15) hC dX5_isViewportLength_1 (by decide) (fun h1 => ?_) (fun h1 => ?_)
  · skip
    have g1 := Int32.not_le.mpr h1
    refine z_iconst (pc := 15) (v := 0) hC dX5_isViewportLength_15 rfl ?_
    exact z_zret (pc := 16) hC hE (z_b01 (Or.inl rfl)) dX5_isViewportLength_16 (zMu_i (by simp [zB, h1, g1]))
  · skip
    have g1 := Int32.not_lt.mp h1
    refine z_iload_n (pc := 4) hC 0 dX5_isViewportLength_4 rfl rfl ?_
    refine z_sipush (pc := 5) (v := 2000) hC dX5_isViewportLength_5 rfl ?_
    refine z_icmp_gt (pc := 8) (tgt := 15) hC dX5_isViewportLength_8 (by decide) (fun h8 => ?_) (fun h8 => ?_)
    · skip
      have g8 := Int32.not_le.mpr h8
      refine z_iconst (pc := 15) (v := 0) hC dX5_isViewportLength_15 rfl ?_
      exact z_zret (pc := 16) hC hE (z_b01 (Or.inl rfl)) dX5_isViewportLength_16 (zMu_i (by simp [zB, h1, g1, h8, g8]))
    · skip
      have g8 := Int32.not_lt.mp h8
      refine z_iconst (pc := 11) (v := 1) hC dX5_isViewportLength_11 rfl ?_
      refine z_goto (pc := 12) (tgt := 16) hC dX5_isViewportLength_12 (by decide) ?_
      exact z_zret (pc := 16) hC hE (z_b01 (Or.inr rfl)) dX5_isViewportLength_16 (zMu_i (by simp [zB, h1, g1, h8, g8]))
set_option maxHeartbeats 4000000 in
set_option maxRecDepth 100000 in
theorem kX0_of (lx : Launch) (g : zG) (N : Nat) (I : Nat → Nat → Int32) (P : Nat → Nat → Option Nat) (J : Nat → Nat → Int64) (b k : Nat) (hb : b < 40) (hk : k < 20) (x : Int32) (hx : x = nI k) (v : Int32) (hv : I (40 + b) k = v) : z_Ct lx yX0_of (zT yX0_of cX0_of 2 (Option.some FieldType.int)) ({ frames := 0, cells := 0, slots := 0, locals := 0 } : Room) g N I P J [.ref (g.1 b), .int x] (zMu (some (.int v)) I P J) 0 0 := by
  refine z_of (by decide) (Nat.le_of_ble_eq_true rfl) (lv0 := [(0, .ref (g.1 b)), (1, .int x)]) rfl ?_
  intro C hlx hC hE hRm
  have hC : zX C cX0_of 2 RX0 (zT yX0_of cX0_of 2 (Option.some FieldType.int)) g N := hC
  refine z_iload_n (pc := 0) hC 1 dX0_of_0 rfl rfl ?_
  refine z_if_lt (pc := 1) (tgt := 19) hC dX0_of_1 (by decide) (fun h1 => ?_) (fun h1 => ?_)
  · skip
    have g1 := Int32.not_le.mpr h1
    exact absurd h1 (by rw [hx]; exact nI_pos (by omega))
  · skip
    have g1 := Int32.not_lt.mp h1
    refine z_iload_n (pc := 4) hC 1 dX0_of_4 rfl rfl ?_
    refine z_bipush (pc := 5) (v := 20) hC dX0_of_5 rfl ?_
    refine z_icmp_ge (pc := 7) (tgt := 19) hC dX0_of_7 (by decide) (fun h7 => ?_) (fun h7 => ?_)
    · skip
      have g7 := Int32.not_lt.mpr h7
      exact absurd h7 (by rw [hx]; intro q; exact nI_ge (a := k) (b := 20) hk (by decide) q)
    · skip
      have g7 := Int32.not_le.mp h7
      refine z_aload_n (pc := 10) hC 0 dX0_of_10 rfl rfl z_isr_r ?_
      refine z_gF (pc := 11) hC 0 1 (t := 40 + b) (z_shb hb) (z_ltb hC hb) rfl inX0 (by decide) rfl zm_1_38 (z_fxb hb) dX0_of_11 ?_
      refine z_iload_n (pc := 14) hC 1 dX0_of_14 rfl rfl ?_
      refine z_iaN (pc := 15) hC k (x := v) (z_shs hb) (z_lts hC hb) hx hk (by decide) hv dX0_of_15 ?_
      refine z_goto (pc := 16) (tgt := 20) hC dX0_of_16 (by decide) ?_
      exact z_iret (pc := 20) hC hE dX0_of_20 (zMu_i rfl)
set_option maxHeartbeats 4000000 in
set_option maxRecDepth 100000 in
theorem kX0_isRoot (lx : Launch) (g : zG) (N : Nat) (I : Nat → Nat → Int32) (P : Nat → Nat → Option Nat) (J : Nat → Nat → Int64) (b : Nat) (hb : b < 40) (v : Option Nat) (hv : P b 3 = v) : z_Ct lx yX0_isRoot (zT yX0_isRoot cX0_isRoot 1 (Option.some FieldType.boolean)) ({ frames := 0, cells := 0, slots := 0, locals := 0 } : Room) g N I P J [.ref (g.1 b)] (zMu (some (.int (zB v.isNone))) I P J) 0 0 := by
  refine z_of (by decide) (Nat.le_of_ble_eq_true rfl) (lv0 := [(0, .ref (g.1 b))]) rfl ?_
  intro C hlx hC hE hRm
  have hC : zX C cX0_isRoot 1 RX0 (zT yX0_isRoot cX0_isRoot 1 (Option.some FieldType.boolean)) g N := hC
  refine z_aload_n (pc := 0) hC 0 dX0_isRoot_0 rfl rfl z_isr_r ?_
  refine z_gP (pc := 1) hC 0 3 (v := va_rf (Option.map g.1 (P b 3))) (z_shb hb) (z_ltb hC hb) rfl inX0 (by decide) rfl zm_1_42 rfl dX0_isRoot_1 ?_
  refine z_ifnonnull (pc := 4) (tgt := 11) hC dX0_isRoot_4 (by decide) (fun a4 h4 => ?_) (fun h4 => ?_)
  · skip
    refine z_iconst (pc := 11) (v := 0) hC dX0_isRoot_11 rfl ?_
    exact z_zret (pc := 12) hC hE (z_b01 (Or.inl rfl)) dX0_isRoot_12 (zMu_i (by rw [← hv]; simp [zB, h4]))
  · skip
    refine z_iconst (pc := 7) (v := 1) hC dX0_isRoot_7 rfl ?_
    refine z_goto (pc := 8) (tgt := 12) hC dX0_isRoot_8 (by decide) ?_
    exact z_zret (pc := 12) hC hE (z_b01 (Or.inr rfl)) dX0_isRoot_12 (zMu_i (by rw [← hv]; simp [zB, h4]))
set_option maxHeartbeats 4000000 in
set_option maxRecDepth 100000 in
theorem kX0_isColumn (lx : Launch) (g : zG) (N : Nat) (I : Nat → Nat → Int32) (P : Nat → Nat → Option Nat) (J : Nat → Nat → Int64) (b : Nat) (hb : b < 40) (v : Int32) (hv : I (40 + b) 0 = v) : z_Ct lx yX0_isColumn (zT yX0_isColumn cX0_isColumn 1 (Option.some FieldType.boolean)) ({ frames := 1, cells := 0, slots := 0, locals := 21 } : Room) g N I P J [.ref (g.1 b)] (zMu (some (.int (zB (decide (v = 1))))) I P J) 0 0 := by
  refine z_of (by decide) (Nat.le_of_ble_eq_true rfl) (lv0 := [(0, .ref (g.1 b))]) rfl ?_
  intro C hlx hC hE hRm
  have hC : zX C cX0_isColumn 1 RX0 (zT yX0_isColumn cX0_isColumn 1 (Option.some FieldType.boolean)) g N := hC
  refine z_aload_n (pc := 0) hC 0 dX0_isColumn_0 rfl rfl z_isr_r ?_
  refine z_iconst (pc := 1) (v := 0) hC dX0_isColumn_1 rfl ?_
  refine z_cV (pc := 2) (st := []) hC [.int 0] (kX0_of C.2.1 g N I P J b 0 hb (by decide) 0 rfl (I (40 + b) 0) rfl) (z_shb hb) (z_ltb hC hb) rfl zkX0_of zm_2_106 ⟨rfl, rfl⟩ rfl rfl hRm ⟨Nat.le_of_ble_eq_true rfl, Nat.le_of_ble_eq_true rfl⟩ (Nat.le_of_ble_eq_true rfl) ⟨Nat.zero_le _, Nat.zero_le _⟩ dX0_isColumn_2 ?_
  refine z_iconst (pc := 5) (v := 1) hC dX0_isColumn_5 rfl ?_
  refine z_icmp_ne (pc := 6) (tgt := 13) hC dX0_isColumn_6 (by decide) (fun h6 => ?_) (fun h6 => ?_)
  · skip
    refine z_iconst (pc := 13) (v := 0) hC dX0_isColumn_13 rfl ?_
    exact z_zret (pc := 14) hC hE (z_b01 (Or.inl rfl)) dX0_isColumn_14 (zMu_i (by subst hv; simp [zB, h6]))
  · skip
    refine z_iconst (pc := 9) (v := 1) hC dX0_isColumn_9 rfl ?_
    refine z_goto (pc := 10) (tgt := 14) hC dX0_isColumn_10 (by decide) ?_
    exact z_zret (pc := 14) hC hE (z_b01 (Or.inr rfl)) dX0_isColumn_14 (zMu_i (by subst hv; simp [zB, h6]))
set_option maxHeartbeats 4000000 in
set_option maxRecDepth 100000 in
theorem kX0_wraps (lx : Launch) (g : zG) (N : Nat) (I : Nat → Nat → Int32) (P : Nat → Nat → Option Nat) (J : Nat → Nat → Int64) (b : Nat) (hb : b < 40) (v : Int32) (hv : I (40 + b) 1 = v) : z_Ct lx yX0_wraps (zT yX0_wraps cX0_wraps 1 (Option.some FieldType.boolean)) ({ frames := 1, cells := 0, slots := 0, locals := 21 } : Room) g N I P J [.ref (g.1 b)] (zMu (some (.int (zB (decide (v = 1))))) I P J) 0 0 := by
  refine z_of (by decide) (Nat.le_of_ble_eq_true rfl) (lv0 := [(0, .ref (g.1 b))]) rfl ?_
  intro C hlx hC hE hRm
  have hC : zX C cX0_wraps 1 RX0 (zT yX0_wraps cX0_wraps 1 (Option.some FieldType.boolean)) g N := hC
  refine z_aload_n (pc := 0) hC 0 dX0_wraps_0 rfl rfl z_isr_r ?_
  refine z_iconst (pc := 1) (v := 1) hC dX0_wraps_1 rfl ?_
  refine z_cV (pc := 2) (st := []) hC [.int 1] (kX0_of C.2.1 g N I P J b 1 hb (by decide) 1 rfl (I (40 + b) 1) rfl) (z_shb hb) (z_ltb hC hb) rfl zkX0_of zm_2_106 ⟨rfl, rfl⟩ rfl rfl hRm ⟨Nat.le_of_ble_eq_true rfl, Nat.le_of_ble_eq_true rfl⟩ (Nat.le_of_ble_eq_true rfl) ⟨Nat.zero_le _, Nat.zero_le _⟩ dX0_wraps_2 ?_
  refine z_iconst (pc := 5) (v := 1) hC dX0_wraps_5 rfl ?_
  refine z_icmp_ne (pc := 6) (tgt := 13) hC dX0_wraps_6 (by decide) (fun h6 => ?_) (fun h6 => ?_)
  · skip
    refine z_iconst (pc := 13) (v := 0) hC dX0_wraps_13 rfl ?_
    exact z_zret (pc := 14) hC hE (z_b01 (Or.inl rfl)) dX0_wraps_14 (zMu_i (by subst hv; simp [zB, h6]))
  · skip
    refine z_iconst (pc := 9) (v := 1) hC dX0_wraps_9 rfl ?_
    refine z_goto (pc := 10) (tgt := 14) hC dX0_wraps_10 (by decide) ?_
    exact z_zret (pc := 14) hC hE (z_b01 (Or.inr rfl)) dX0_wraps_14 (zMu_i (by subst hv; simp [zB, h6]))
set_option maxHeartbeats 4000000 in
set_option maxRecDepth 100000 in
theorem kX0_innerWidth (lx : Launch) (g : zG) (N : Nat) (I : Nat → Nat → Int32) (P : Nat → Nat → Option Nat) (J : Nat → Nat → Int64) (b : Nat) (hb : b < 40) : z_Ct lx yX0_innerWidth (zT yX0_innerWidth cX0_innerWidth 1 (Option.some FieldType.int)) ({ frames := 1, cells := 0, slots := 0, locals := 21 } : Room) g N I P J [.ref (g.1 b)] (zMu (some (.int (zinW I b))) I P J) 0 0 := by
  refine z_of (by decide) (Nat.le_of_ble_eq_true rfl) (lv0 := [(0, .ref (g.1 b))]) rfl ?_
  intro C hlx hC hE hRm
  have hC : zX C cX0_innerWidth 1 RX0 (zT yX0_innerWidth cX0_innerWidth 1 (Option.some FieldType.int)) g N := hC
  refine z_aload_n (pc := 0) hC 0 dX0_innerWidth_0 rfl rfl z_isr_r ?_
  refine z_gI (pc := 1) hC 0 14 (x := I b 14) (z_shb hb) (z_ltb hC hb) rfl inX0 (by decide) rfl zm_1_73 rfl dX0_innerWidth_1 ?_
  refine z_iconst (pc := 4) (v := 2) hC dX0_innerWidth_4 rfl ?_
  refine z_aload_n (pc := 5) hC 0 dX0_innerWidth_5 rfl rfl z_isr_r ?_
  refine z_iconst (pc := 6) (v := 5) hC dX0_innerWidth_6 rfl ?_
  refine z_cV (pc := 7) (st := [.int 2, .int (I b 14)]) hC [.int 5] (kX0_of C.2.1 g N I P J b 5 hb (by decide) 5 rfl (I (40 + b) 5) rfl) (z_shb hb) (z_ltb hC hb) rfl zkX0_of zm_2_106 ⟨rfl, rfl⟩ rfl rfl hRm ⟨Nat.le_of_ble_eq_true rfl, Nat.le_of_ble_eq_true rfl⟩ (Nat.le_of_ble_eq_true rfl) ⟨Nat.zero_le _, Nat.zero_le _⟩ dX0_innerWidth_7 ?_
  refine z_imul (pc := 10) hC dX0_innerWidth_10 ?_
  refine z_isub (pc := 11) hC dX0_innerWidth_11 ?_
  refine z_iconst (pc := 12) (v := 0) hC dX0_innerWidth_12 rfl ?_
  refine z_mmax (pc := 13) hC (z_tw zm_2_158) (z_tw zm_2_134) (z_tw zm_1_12) (z_tw zm_2_135) (by rw [hRm]; exact Nat.le_of_ble_eq_true rfl) (by rw [hRm]; exact (Nat.le_of_ble_eq_true rfl)) (by rw [hRm]; exact Nat.zero_le _) (by rw [hRm]; exact Nat.zero_le _) dX0_innerWidth_13 ?_
  exact z_iret (pc := 16) hC hE dX0_innerWidth_16 (zMu_i rfl)
set_option maxHeartbeats 4000000 in
set_option maxRecDepth 100000 in
theorem kX0_innerHeight (lx : Launch) (g : zG) (N : Nat) (I : Nat → Nat → Int32) (P : Nat → Nat → Option Nat) (J : Nat → Nat → Int64) (b : Nat) (hb : b < 40) : z_Ct lx yX0_innerHeight (zT yX0_innerHeight cX0_innerHeight 1 (Option.some FieldType.int)) ({ frames := 1, cells := 0, slots := 0, locals := 21 } : Room) g N I P J [.ref (g.1 b)] (zMu (some (.int (zinH I b))) I P J) 0 0 := by
  refine z_of (by decide) (Nat.le_of_ble_eq_true rfl) (lv0 := [(0, .ref (g.1 b))]) rfl ?_
  intro C hlx hC hE hRm
  have hC : zX C cX0_innerHeight 1 RX0 (zT yX0_innerHeight cX0_innerHeight 1 (Option.some FieldType.int)) g N := hC
  refine z_aload_n (pc := 0) hC 0 dX0_innerHeight_0 rfl rfl z_isr_r ?_
  refine z_gI (pc := 1) hC 0 15 (x := I b 15) (z_shb hb) (z_ltb hC hb) rfl inX0 (by decide) rfl zm_1_76 rfl dX0_innerHeight_1 ?_
  refine z_iconst (pc := 4) (v := 2) hC dX0_innerHeight_4 rfl ?_
  refine z_aload_n (pc := 5) hC 0 dX0_innerHeight_5 rfl rfl z_isr_r ?_
  refine z_iconst (pc := 6) (v := 5) hC dX0_innerHeight_6 rfl ?_
  refine z_cV (pc := 7) (st := [.int 2, .int (I b 15)]) hC [.int 5] (kX0_of C.2.1 g N I P J b 5 hb (by decide) 5 rfl (I (40 + b) 5) rfl) (z_shb hb) (z_ltb hC hb) rfl zkX0_of zm_2_106 ⟨rfl, rfl⟩ rfl rfl hRm ⟨Nat.le_of_ble_eq_true rfl, Nat.le_of_ble_eq_true rfl⟩ (Nat.le_of_ble_eq_true rfl) ⟨Nat.zero_le _, Nat.zero_le _⟩ dX0_innerHeight_7 ?_
  refine z_imul (pc := 10) hC dX0_innerHeight_10 ?_
  refine z_isub (pc := 11) hC dX0_innerHeight_11 ?_
  refine z_iconst (pc := 12) (v := 0) hC dX0_innerHeight_12 rfl ?_
  refine z_mmax (pc := 13) hC (z_tw zm_2_158) (z_tw zm_2_134) (z_tw zm_1_12) (z_tw zm_2_135) (by rw [hRm]; exact Nat.le_of_ble_eq_true rfl) (by rw [hRm]; exact (Nat.le_of_ble_eq_true rfl)) (by rw [hRm]; exact Nat.zero_le _) (by rw [hRm]; exact Nat.zero_le _) dX0_innerHeight_13 ?_
  exact z_iret (pc := 16) hC hE dX0_innerHeight_16 (zMu_i rfl)
set_option maxHeartbeats 4000000 in
set_option maxRecDepth 100000 in
theorem kX0_margins (lx : Launch) (g : zG) (N : Nat) (I : Nat → Nat → Int32) (P : Nat → Nat → Option Nat) (J : Nat → Nat → Int64) (b : Nat) (hb : b < 40) (v : Int32) (hv : I (40 + b) 6 = v) : z_Ct lx yX0_margins (zT yX0_margins cX0_margins 1 (Option.some FieldType.int)) ({ frames := 1, cells := 0, slots := 0, locals := 21 } : Room) g N I P J [.ref (g.1 b)] (zMu (some (.int (2 * v))) I P J) 0 0 := by
  refine z_of (by decide) (Nat.le_of_ble_eq_true rfl) (lv0 := [(0, .ref (g.1 b))]) rfl ?_
  intro C hlx hC hE hRm
  have hC : zX C cX0_margins 1 RX0 (zT yX0_margins cX0_margins 1 (Option.some FieldType.int)) g N := hC
  refine z_iconst (pc := 0) (v := 2) hC dX0_margins_0 rfl ?_
  refine z_aload_n (pc := 1) hC 0 dX0_margins_1 rfl rfl z_isr_r ?_
  refine z_bipush (pc := 2) (v := 6) hC dX0_margins_2 rfl ?_
  refine z_cV (pc := 4) (st := [.int 2]) hC [.int 6] (kX0_of C.2.1 g N I P J b 6 hb (by decide) 6 rfl (I (40 + b) 6) rfl) (z_shb hb) (z_ltb hC hb) rfl zkX0_of zm_2_106 ⟨rfl, rfl⟩ rfl rfl hRm ⟨Nat.le_of_ble_eq_true rfl, Nat.le_of_ble_eq_true rfl⟩ (Nat.le_of_ble_eq_true rfl) ⟨Nat.zero_le _, Nat.zero_le _⟩ dX0_margins_4 ?_
  refine z_imul (pc := 7) hC dX0_margins_7 ?_
  exact z_iret (pc := 8) hC hE dX0_margins_8 (zMu_i (by rw [← hv]))
set_option maxHeartbeats 4000000 in
set_option maxRecDepth 100000 in
theorem kX0_limitWidth (lx : Launch) (g : zG) (N : Nat) (I : Nat → Nat → Int32) (P : Nat → Nat → Option Nat) (J : Nat → Nat → Int64) (b : Nat) (hb : b < 40) (x : Int32) : z_Ct lx yX0_limitWidth (zT yX0_limitWidth cX0_limitWidth 2 (Option.some FieldType.int)) ({ frames := 1, cells := 0, slots := 0, locals := 23 } : Room) g N I P J [.ref (g.1 b), .int x] (zMu (some (.int (zlimW I P b x))) I P J) 0 0 := by
  refine z_of (by decide) (Nat.le_of_ble_eq_true rfl) (lv0 := [(0, .ref (g.1 b)), (1, .int x)]) rfl ?_
  intro C hlx hC hE hRm
  have hC : zX C cX0_limitWidth 2 RX0 (zT yX0_limitWidth cX0_limitWidth 2 (Option.some FieldType.int)) g N := hC
  refine z_aload_n (pc := 0) hC 0 dX0_limitWidth_0 rfl rfl z_isr_r ?_
  refine z_cV (pc := 1) (st := []) hC [] (kX0_isRoot C.2.1 g N I P J b hb (P b 3) rfl) (z_shb hb) (z_ltb hC hb) rfl zkX0_isRoot zm_2_118 ⟨rfl, rfl⟩ rfl rfl hRm ⟨Nat.le_of_ble_eq_true rfl, Nat.le_of_ble_eq_true rfl⟩ (Nat.le_of_ble_eq_true rfl) ⟨Nat.zero_le _, Nat.zero_le _⟩ dX0_limitWidth_1 ?_
  refine z_if_eq (pc := 4) (tgt := 11) hC dX0_limitWidth_4 (by decide) (fun h4 => ?_) (fun h4 => ?_)
  · skip
    have g4 := zB_f h4
    refine z_iload_n (pc := 11) hC 1 dX0_limitWidth_11 rfl rfl ?_
    refine z_aload_n (pc := 12) hC 0 dX0_limitWidth_12 rfl rfl z_isr_r ?_
    refine z_bipush (pc := 13) (v := 12) hC dX0_limitWidth_13 rfl ?_
    refine z_cV (pc := 15) (st := [.int x]) hC [.int 12] (kX0_of C.2.1 g N I P J b 12 hb (by decide) 12 rfl (I (40 + b) 12) rfl) (z_shb hb) (z_ltb hC hb) rfl zkX0_of zm_2_106 ⟨rfl, rfl⟩ rfl rfl hRm ⟨Nat.le_of_ble_eq_true rfl, Nat.le_of_ble_eq_true rfl⟩ (Nat.le_of_ble_eq_true rfl) ⟨Nat.zero_le _, Nat.zero_le _⟩ dX0_limitWidth_15 ?_
    refine z_aload_n (pc := 18) hC 0 dX0_limitWidth_18 rfl rfl z_isr_r ?_
    refine z_bipush (pc := 19) (v := 14) hC dX0_limitWidth_19 rfl ?_
    refine z_cV (pc := 21) (st := [.int (I (40 + b) 12), .int x]) hC [.int 14] (kX0_of C.2.1 g N I P J b 14 hb (by decide) 14 rfl (I (40 + b) 14) rfl) (z_shb hb) (z_ltb hC hb) rfl zkX0_of zm_2_106 ⟨rfl, rfl⟩ rfl rfl hRm ⟨Nat.le_of_ble_eq_true rfl, Nat.le_of_ble_eq_true rfl⟩ (Nat.le_of_ble_eq_true rfl) ⟨Nat.zero_le _, Nat.zero_le _⟩ dX0_limitWidth_21 ?_
    refine z_cSN (pc := 24) (st := []) hC [.int x, .int (I (40 + b) 12), .int (I (40 + b) 14)] (kX5_limited C.2.1 g N I P J x (I (40 + b) 12) (I (40 + b) 14)) zkX5_limited (hC.2.2.2.2.2.1.2.2.2.2.2.2.2.1) ⟨rfl, rfl⟩ rfl rfl hRm ⟨Nat.le_of_ble_eq_true rfl, Nat.le_of_ble_eq_true rfl⟩ (Nat.le_of_ble_eq_true rfl) ⟨Nat.zero_le _, Nat.zero_le _⟩ dX0_limitWidth_24 ?_
    exact z_iret (pc := 27) hC hE dX0_limitWidth_27 (zMu_i (by simp [zlimW, h4, g4]))
  · skip
    have g4 := zB_t h4
    refine z_iload_n (pc := 7) hC 1 dX0_limitWidth_7 rfl rfl ?_
    refine z_goto (pc := 8) (tgt := 27) hC dX0_limitWidth_8 (by decide) ?_
    exact z_iret (pc := 27) hC hE dX0_limitWidth_27 (zMu_i (by simp [zlimW, h4, g4]))
set_option maxHeartbeats 4000000 in
set_option maxRecDepth 100000 in
theorem kX0_limitHeight (lx : Launch) (g : zG) (N : Nat) (I : Nat → Nat → Int32) (P : Nat → Nat → Option Nat) (J : Nat → Nat → Int64) (b : Nat) (hb : b < 40) (x : Int32) : z_Ct lx yX0_limitHeight (zT yX0_limitHeight cX0_limitHeight 2 (Option.some FieldType.int)) ({ frames := 1, cells := 0, slots := 0, locals := 23 } : Room) g N I P J [.ref (g.1 b), .int x] (zMu (some (.int (zlimH I P b x))) I P J) 0 0 := by
  refine z_of (by decide) (Nat.le_of_ble_eq_true rfl) (lv0 := [(0, .ref (g.1 b)), (1, .int x)]) rfl ?_
  intro C hlx hC hE hRm
  have hC : zX C cX0_limitHeight 2 RX0 (zT yX0_limitHeight cX0_limitHeight 2 (Option.some FieldType.int)) g N := hC
  refine z_aload_n (pc := 0) hC 0 dX0_limitHeight_0 rfl rfl z_isr_r ?_
  refine z_cV (pc := 1) (st := []) hC [] (kX0_isRoot C.2.1 g N I P J b hb (P b 3) rfl) (z_shb hb) (z_ltb hC hb) rfl zkX0_isRoot zm_2_118 ⟨rfl, rfl⟩ rfl rfl hRm ⟨Nat.le_of_ble_eq_true rfl, Nat.le_of_ble_eq_true rfl⟩ (Nat.le_of_ble_eq_true rfl) ⟨Nat.zero_le _, Nat.zero_le _⟩ dX0_limitHeight_1 ?_
  refine z_if_eq (pc := 4) (tgt := 11) hC dX0_limitHeight_4 (by decide) (fun h4 => ?_) (fun h4 => ?_)
  · skip
    have g4 := zB_f h4
    refine z_iload_n (pc := 11) hC 1 dX0_limitHeight_11 rfl rfl ?_
    refine z_aload_n (pc := 12) hC 0 dX0_limitHeight_12 rfl rfl z_isr_r ?_
    refine z_bipush (pc := 13) (v := 13) hC dX0_limitHeight_13 rfl ?_
    refine z_cV (pc := 15) (st := [.int x]) hC [.int 13] (kX0_of C.2.1 g N I P J b 13 hb (by decide) 13 rfl (I (40 + b) 13) rfl) (z_shb hb) (z_ltb hC hb) rfl zkX0_of zm_2_106 ⟨rfl, rfl⟩ rfl rfl hRm ⟨Nat.le_of_ble_eq_true rfl, Nat.le_of_ble_eq_true rfl⟩ (Nat.le_of_ble_eq_true rfl) ⟨Nat.zero_le _, Nat.zero_le _⟩ dX0_limitHeight_15 ?_
    refine z_aload_n (pc := 18) hC 0 dX0_limitHeight_18 rfl rfl z_isr_r ?_
    refine z_bipush (pc := 19) (v := 15) hC dX0_limitHeight_19 rfl ?_
    refine z_cV (pc := 21) (st := [.int (I (40 + b) 13), .int x]) hC [.int 15] (kX0_of C.2.1 g N I P J b 15 hb (by decide) 15 rfl (I (40 + b) 15) rfl) (z_shb hb) (z_ltb hC hb) rfl zkX0_of zm_2_106 ⟨rfl, rfl⟩ rfl rfl hRm ⟨Nat.le_of_ble_eq_true rfl, Nat.le_of_ble_eq_true rfl⟩ (Nat.le_of_ble_eq_true rfl) ⟨Nat.zero_le _, Nat.zero_le _⟩ dX0_limitHeight_21 ?_
    refine z_cSN (pc := 24) (st := []) hC [.int x, .int (I (40 + b) 13), .int (I (40 + b) 15)] (kX5_limited C.2.1 g N I P J x (I (40 + b) 13) (I (40 + b) 15)) zkX5_limited (hC.2.2.2.2.2.1.2.2.2.2.2.2.2.1) ⟨rfl, rfl⟩ rfl rfl hRm ⟨Nat.le_of_ble_eq_true rfl, Nat.le_of_ble_eq_true rfl⟩ (Nat.le_of_ble_eq_true rfl) ⟨Nat.zero_le _, Nat.zero_le _⟩ dX0_limitHeight_24 ?_
    exact z_iret (pc := 27) hC hE dX0_limitHeight_27 (zMu_i (by simp [zlimH, h4, g4]))
  · skip
    have g4 := zB_t h4
    refine z_iload_n (pc := 7) hC 1 dX0_limitHeight_7 rfl rfl ?_
    refine z_goto (pc := 8) (tgt := 27) hC dX0_limitHeight_8 (by decide) ?_
    exact z_iret (pc := 27) hC hE dX0_limitHeight_27 (zMu_i (by simp [zlimH, h4, g4]))
set_option maxHeartbeats 4000000 in
set_option maxRecDepth 100000 in
theorem kX0_fixedSize (lx : Launch) (g : zG) (N : Nat) (I : Nat → Nat → Int32) (P : Nat → Nat → Option Nat) (J : Nat → Nat → Int64) (b k : Nat) (hb : b < 40) (hk : k < 20) (x : Int32) (hx : x = nI k) : z_Ct lx yX0_fixedSize (zT yX0_fixedSize cX0_fixedSize 2 (Option.some FieldType.int)) ({ frames := 1, cells := 0, slots := 0, locals := 21 } : Room) g N I P J [.ref (g.1 b), .int x] (zMu (some (.int (zfix I P b k))) I P J) 0 0 := by
  refine z_of (by decide) (Nat.le_of_ble_eq_true rfl) (lv0 := [(0, .ref (g.1 b)), (1, .int x)]) rfl ?_
  intro C hlx hC hE hRm
  have hC : zX C cX0_fixedSize 2 RX0 (zT yX0_fixedSize cX0_fixedSize 2 (Option.some FieldType.int)) g N := hC
  refine z_aload_n (pc := 0) hC 0 dX0_fixedSize_0 rfl rfl z_isr_r ?_
  refine z_cV (pc := 1) (st := []) hC [] (kX0_isRoot C.2.1 g N I P J b hb (P b 3) rfl) (z_shb hb) (z_ltb hC hb) rfl zkX0_isRoot zm_2_118 ⟨rfl, rfl⟩ rfl rfl hRm ⟨Nat.le_of_ble_eq_true rfl, Nat.le_of_ble_eq_true rfl⟩ (Nat.le_of_ble_eq_true rfl) ⟨Nat.zero_le _, Nat.zero_le _⟩ dX0_fixedSize_1 ?_
  refine z_if_eq (pc := 4) (tgt := 11) hC dX0_fixedSize_4 (by decide) (fun h4 => ?_) (fun h4 => ?_)
  · skip
    have g4 := zB_f h4
    refine z_aload_n (pc := 11) hC 0 dX0_fixedSize_11 rfl rfl z_isr_r ?_
    refine z_iload_n (pc := 12) hC 1 dX0_fixedSize_12 rfl rfl ?_
    refine z_cV (pc := 13) (st := []) hC [.int x] (kX0_of C.2.1 g N I P J b k hb hk x hx _ rfl) (z_shb hb) (z_ltb hC hb) rfl zkX0_of zm_2_106 ⟨rfl, rfl⟩ rfl rfl hRm ⟨Nat.le_of_ble_eq_true rfl, Nat.le_of_ble_eq_true rfl⟩ (Nat.le_of_ble_eq_true rfl) ⟨Nat.zero_le _, Nat.zero_le _⟩ dX0_fixedSize_13 ?_
    exact z_iret (pc := 16) hC hE dX0_fixedSize_16 (zMu_i (by simp [zfix, h4, g4]))
  · skip
    have g4 := zB_t h4
    refine z_iconst (pc := 7) (v := (-1)) hC dX0_fixedSize_7 rfl ?_
    refine z_goto (pc := 8) (tgt := 16) hC dX0_fixedSize_8 (by decide) ?_
    exact z_iret (pc := 16) hC hE dX0_fixedSize_16 (zMu_i (by simp [zfix, h4, g4]))
set_option maxHeartbeats 4000000 in
set_option maxRecDepth 100000 in
theorem kX0_alignment (lx : Launch) (g : zG) (N : Nat) (I : Nat → Nat → Int32) (P : Nat → Nat → Option Nat) (J : Nat → Nat → Int64) (b : Nat) (hb : b < 40) (hp : ∀ a, P b 3 = some a → a < 40) : z_Ct lx yX0_alignment (zT yX0_alignment cX0_alignment 1 (Option.some FieldType.int)) ({ frames := 1, cells := 0, slots := 0, locals := 21 } : Room) g N I P J [.ref (g.1 b)] (zMu (some (.int (zali I P b))) I P J) 0 0 := by
  refine z_of (by decide) (Nat.le_of_ble_eq_true rfl) (lv0 := [(0, .ref (g.1 b))]) rfl ?_
  intro C hlx hC hE hRm
  have hC : zX C cX0_alignment 1 RX0 (zT yX0_alignment cX0_alignment 1 (Option.some FieldType.int)) g N := hC
  refine z_aload_n (pc := 0) hC 0 dX0_alignment_0 rfl rfl z_isr_r ?_
  refine z_bipush (pc := 1) (v := 16) hC dX0_alignment_1 rfl ?_
  refine z_cV (pc := 3) (st := []) hC [.int 16] (kX0_of C.2.1 g N I P J b 16 hb (by decide) 16 rfl (I (40 + b) 16) rfl) (z_shb hb) (z_ltb hC hb) rfl zkX0_of zm_2_106 ⟨rfl, rfl⟩ rfl rfl hRm ⟨Nat.le_of_ble_eq_true rfl, Nat.le_of_ble_eq_true rfl⟩ (Nat.le_of_ble_eq_true rfl) ⟨Nat.zero_le _, Nat.zero_le _⟩ dX0_alignment_3 ?_
  refine z_iconst (pc := 6) (v := (-1)) hC dX0_alignment_6 rfl ?_
  refine z_icmp_ne (pc := 7) (tgt := 17) hC dX0_alignment_7 (by decide) (fun h7 => ?_) (fun h7 => ?_)
  · skip
    refine z_aload_n (pc := 17) hC 0 dX0_alignment_17 rfl rfl z_isr_r ?_
    refine z_bipush (pc := 18) (v := 16) hC dX0_alignment_18 rfl ?_
    refine z_cV (pc := 20) (st := []) hC [.int 16] (kX0_of C.2.1 g N I P J b 16 hb (by decide) 16 rfl (I (40 + b) 16) rfl) (z_shb hb) (z_ltb hC hb) rfl zkX0_of zm_2_106 ⟨rfl, rfl⟩ rfl rfl hRm ⟨Nat.le_of_ble_eq_true rfl, Nat.le_of_ble_eq_true rfl⟩ (Nat.le_of_ble_eq_true rfl) ⟨Nat.zero_le _, Nat.zero_le _⟩ dX0_alignment_20 ?_
    exact z_iret (pc := 23) hC hE dX0_alignment_23 (zMu_i (by simp [zali, h7]))
  · skip
    refine z_aload_n (pc := 10) hC 0 dX0_alignment_10 rfl rfl z_isr_r ?_
    refine z_gP (pc := 11) hC 0 3 (v := va_rf (Option.map g.1 (P b 3))) (z_shb hb) (z_ltb hC hb) rfl inX0 (by decide) rfl zm_1_42 rfl dX0_alignment_11 ?_
    refine z_ifnonnull (pc := 14) (tgt := 24) hC dX0_alignment_14 (by decide) (fun a14 h14 => ?_) (fun h14 => ?_)
    · skip
      refine z_aload_n (pc := 24) hC 0 dX0_alignment_24 rfl rfl z_isr_r ?_
      refine z_gP (pc := 25) hC 0 3 (v := .ref (g.1 a14)) (z_shb hb) (z_ltb hC hb) rfl inX0 (by decide) rfl zm_1_42 (by rw [h14]; rfl) dX0_alignment_25 ?_
      refine z_iconst (pc := 28) (v := 3) hC dX0_alignment_28 rfl ?_
      refine z_cV (pc := 29) (st := []) hC [.int 3] (kX0_of C.2.1 g N I P J a14 3 (hp a14 h14) (by decide) 3 rfl (I (40 + a14) 3) rfl) (z_shb (hp a14 h14)) (z_ltb hC (hp a14 h14)) rfl zkX0_of zm_2_106 ⟨rfl, rfl⟩ rfl rfl hRm ⟨Nat.le_of_ble_eq_true rfl, Nat.le_of_ble_eq_true rfl⟩ (Nat.le_of_ble_eq_true rfl) ⟨Nat.zero_le _, Nat.zero_le _⟩ dX0_alignment_29 ?_
      exact z_iret (pc := 32) hC hE dX0_alignment_32 (zMu_i (by simp [zali, h7, h14]))
    · skip
      refine z_aload_n (pc := 17) hC 0 dX0_alignment_17 rfl rfl z_isr_r ?_
      refine z_bipush (pc := 18) (v := 16) hC dX0_alignment_18 rfl ?_
      refine z_cV (pc := 20) (st := []) hC [.int 16] (kX0_of C.2.1 g N I P J b 16 hb (by decide) 16 rfl (I (40 + b) 16) rfl) (z_shb hb) (z_ltb hC hb) rfl zkX0_of zm_2_106 ⟨rfl, rfl⟩ rfl rfl hRm ⟨Nat.le_of_ble_eq_true rfl, Nat.le_of_ble_eq_true rfl⟩ (Nat.le_of_ble_eq_true rfl) ⟨Nat.zero_le _, Nat.zero_le _⟩ dX0_alignment_20 ?_
      exact z_iret (pc := 23) hC hE dX0_alignment_23 (zMu_i (by simp [zali, h7, h14]))
theorem zfit_ne (w : Int32) : ¬ zfit w = 0 := by
  unfold zfit
  intro h
  by_cases c : w / 8 < 1
  · rw [if_pos c] at h
    exact absurd h (by decide)
  · rw [if_neg c] at h
    rw [h] at c
    exact c (by decide)
set_option maxHeartbeats 4000000 in
set_option maxRecDepth 100000 in
theorem kX0_textLines (lx : Launch) (g : zG) (N : Nat) (I : Nat → Nat → Int32) (P : Nat → Nat → Option Nat) (J : Nat → Nat → Int64) (b : Nat) (hb : b < 40) : z_Ct lx yX0_textLines (zT yX0_textLines cX0_textLines 2 (Option.some FieldType.int)) ({ frames := 2, cells := 0, slots := 0, locals := 41 } : Room) g N I P J [.ref (g.1 b)] (zMu (some (.int (ztl (I (40 + b) 19) (zinW I b)))) I P J) 0 0 := by
  refine z_of (by decide) (Nat.le_of_ble_eq_true rfl) (lv0 := [(0, .ref (g.1 b))]) rfl ?_
  intro C hlx hC hE hRm
  have hC : zX C cX0_textLines 2 RX0 (zT yX0_textLines cX0_textLines 2 (Option.some FieldType.int)) g N := hC
  refine z_aload_n (pc := 0) hC 0 dX0_textLines_0 rfl rfl z_isr_r ?_
  refine z_cV (pc := 1) (st := []) hC [] (kX0_innerWidth C.2.1 g N I P J b hb) (z_shb hb) (z_ltb hC hb) rfl zkX0_innerWidth zm_2_232 ⟨rfl, rfl⟩ rfl rfl hRm ⟨Nat.le_of_ble_eq_true rfl, Nat.le_of_ble_eq_true rfl⟩ (Nat.le_of_ble_eq_true rfl) ⟨Nat.zero_le _, Nat.zero_le _⟩ dX0_textLines_1 ?_
  refine z_bipush (pc := 4) (v := 8) hC dX0_textLines_4 rfl ?_
  refine z_idiv (pc := 6) hC dX0_textLines_6 (by decide) ?_
  refine z_iconst (pc := 7) (v := 1) hC dX0_textLines_7 rfl ?_
  refine z_mmax (pc := 8) hC (z_tw zm_2_158) (z_tw zm_2_134) (z_tw zm_1_12) (z_tw zm_2_135) (by rw [hRm]; exact Nat.le_of_ble_eq_true rfl) (by rw [hRm]; exact (Nat.le_of_ble_eq_true rfl)) (by rw [hRm]; exact Nat.zero_le _) (by rw [hRm]; exact Nat.zero_le _) dX0_textLines_8 ?_
  refine z_istore_n (pc := 11) (lv' := [(1, .int (if (zinW I b) / 8 < 1 then 1 else (zinW I b) / 8)), (0, .ref (g.1 b))]) hC dX0_textLines_11 rfl (by decide) rfl ?_
  refine z_aload_n (pc := 12) hC 1 dX0_textLines_12 rfl rfl z_isr_r ?_
  refine z_bipush (pc := 13) (v := 19) hC dX0_textLines_13 rfl ?_
  refine z_cV (pc := 15) (st := []) hC [.int 19] (kX0_of C.2.1 g N I P J b 19 hb (by decide) 19 rfl (I (40 + b) 19) rfl) (z_shb hb) (z_ltb hC hb) rfl zkX0_of zm_2_106 ⟨rfl, rfl⟩ rfl rfl hRm ⟨Nat.le_of_ble_eq_true rfl, Nat.le_of_ble_eq_true rfl⟩ (Nat.le_of_ble_eq_true rfl) ⟨Nat.zero_le _, Nat.zero_le _⟩ dX0_textLines_15 ?_
  refine z_iload_n (pc := 18) hC 0 dX0_textLines_18 rfl rfl ?_
  refine z_iadd (pc := 19) hC dX0_textLines_19 ?_
  refine z_iconst (pc := 20) (v := 1) hC dX0_textLines_20 rfl ?_
  refine z_isub (pc := 21) hC dX0_textLines_21 ?_
  refine z_iload_n (pc := 22) hC 0 dX0_textLines_22 rfl rfl ?_
  refine z_idiv (pc := 23) hC dX0_textLines_23 (zfit_ne _) ?_
  exact z_iret (pc := 24) hC hE dX0_textLines_24 (zMu_i rfl)
def zcov (I : Nat → Nat → Int32) (b : Nat) (x y : Int32) : Bool := decide (I b 12 ≤ x) && (decide (x < I b 12 + I b 14) && (decide (I b 13 ≤ y) && decide (y < I b 13 + I b 15)))
set_option maxHeartbeats 4000000 in
set_option maxRecDepth 100000 in
theorem kX0_covers (lx : Launch) (g : zG) (N : Nat) (I : Nat → Nat → Int32) (P : Nat → Nat → Option Nat) (J : Nat → Nat → Int64) (b : Nat) (hb : b < 40) (x y : Int32) : z_Ct lx yX0_covers (zT yX0_covers cX0_covers 3 (Option.some FieldType.boolean)) ({ frames := 0, cells := 0, slots := 0, locals := 0 } : Room) g N I P J [.ref (g.1 b), .int x, .int y] (zMu (some (.int (zB (zcov I b x y)))) I P J) 0 0 := by
  refine z_of (by decide) (Nat.le_of_ble_eq_true rfl) (lv0 := [(0, .ref (g.1 b)), (1, .int x), (2, .int y)]) rfl ?_
  intro C hlx hC hE hRm
  have hC : zX C cX0_covers 3 RX0 (zT yX0_covers cX0_covers 3 (Option.some FieldType.boolean)) g N := hC
  refine z_iload_n (pc := 0) hC 1 dX0_covers_0 rfl rfl ?_
  refine z_aload_n (pc := 1) hC 0 dX0_covers_1 rfl rfl z_isr_r ?_
  refine z_gI (pc := 2) hC 0 12 (x := I b 12) (z_shb hb) (z_ltb hC hb) rfl inX0 (by decide) rfl zm_1_68 rfl dX0_covers_2 ?_
  refine z_icmp_lt (pc := 5) (tgt := 46) hC dX0_covers_5 (by decide) (fun h5 => ?_) (fun h5 => ?_)
  · skip
    have g5 := Int32.not_le.mpr h5
    refine z_iconst (pc := 46) (v := 0) hC dX0_covers_46 rfl ?_
    exact z_zret (pc := 47) hC hE (z_b01 (Or.inl rfl)) dX0_covers_47 (zMu_i (by simp [zB, zcov, h5, g5]))
  · skip
    have g5 := Int32.not_lt.mp h5
    refine z_iload_n (pc := 8) hC 1 dX0_covers_8 rfl rfl ?_
    refine z_aload_n (pc := 9) hC 0 dX0_covers_9 rfl rfl z_isr_r ?_
    refine z_gI (pc := 10) hC 0 12 (x := I b 12) (z_shb hb) (z_ltb hC hb) rfl inX0 (by decide) rfl zm_1_68 rfl dX0_covers_10 ?_
    refine z_aload_n (pc := 13) hC 0 dX0_covers_13 rfl rfl z_isr_r ?_
    refine z_gI (pc := 14) hC 0 14 (x := I b 14) (z_shb hb) (z_ltb hC hb) rfl inX0 (by decide) rfl zm_1_73 rfl dX0_covers_14 ?_
    refine z_iadd (pc := 17) hC dX0_covers_17 ?_
    refine z_icmp_ge (pc := 18) (tgt := 46) hC dX0_covers_18 (by decide) (fun h18 => ?_) (fun h18 => ?_)
    · skip
      have g18 := Int32.not_lt.mpr h18
      refine z_iconst (pc := 46) (v := 0) hC dX0_covers_46 rfl ?_
      exact z_zret (pc := 47) hC hE (z_b01 (Or.inl rfl)) dX0_covers_47 (zMu_i (by simp [zB, zcov, h5, g5, h18, g18]))
    · skip
      have g18 := Int32.not_le.mp h18
      refine z_iload_n (pc := 21) hC 2 dX0_covers_21 rfl rfl ?_
      refine z_aload_n (pc := 22) hC 0 dX0_covers_22 rfl rfl z_isr_r ?_
      refine z_gI (pc := 23) hC 0 13 (x := I b 13) (z_shb hb) (z_ltb hC hb) rfl inX0 (by decide) rfl zm_1_71 rfl dX0_covers_23 ?_
      refine z_icmp_lt (pc := 26) (tgt := 46) hC dX0_covers_26 (by decide) (fun h26 => ?_) (fun h26 => ?_)
      · skip
        have g26 := Int32.not_le.mpr h26
        refine z_iconst (pc := 46) (v := 0) hC dX0_covers_46 rfl ?_
        exact z_zret (pc := 47) hC hE (z_b01 (Or.inl rfl)) dX0_covers_47 (zMu_i (by simp [zB, zcov, h5, g5, h18, g18, h26, g26]))
      · skip
        have g26 := Int32.not_lt.mp h26
        refine z_iload_n (pc := 29) hC 2 dX0_covers_29 rfl rfl ?_
        refine z_aload_n (pc := 30) hC 0 dX0_covers_30 rfl rfl z_isr_r ?_
        refine z_gI (pc := 31) hC 0 13 (x := I b 13) (z_shb hb) (z_ltb hC hb) rfl inX0 (by decide) rfl zm_1_71 rfl dX0_covers_31 ?_
        refine z_aload_n (pc := 34) hC 0 dX0_covers_34 rfl rfl z_isr_r ?_
        refine z_gI (pc := 35) hC 0 15 (x := I b 15) (z_shb hb) (z_ltb hC hb) rfl inX0 (by decide) rfl zm_1_76 rfl dX0_covers_35 ?_
        refine z_iadd (pc := 38) hC dX0_covers_38 ?_
        refine z_icmp_ge (pc := 39) (tgt := 46) hC dX0_covers_39 (by decide) (fun h39 => ?_) (fun h39 => ?_)
        · skip
          have g39 := Int32.not_lt.mpr h39
          refine z_iconst (pc := 46) (v := 0) hC dX0_covers_46 rfl ?_
          exact z_zret (pc := 47) hC hE (z_b01 (Or.inl rfl)) dX0_covers_47 (zMu_i (by simp [zB, zcov, h5, g5, h18, g18, h26, g26, h39, g39]))
        · skip
          have g39 := Int32.not_le.mp h39
          refine z_iconst (pc := 42) (v := 1) hC dX0_covers_42 rfl ?_
          refine z_goto (pc := 43) (tgt := 47) hC dX0_covers_43 (by decide) ?_
          exact z_zret (pc := 47) hC hE (z_b01 (Or.inr rfl)) dX0_covers_47 (zMu_i (by simp [zB, zcov, h5, g5, h18, g18, h26, g26, h39, g39]))
theorem z_isP {k : Nat} (h : k < 20) {x : Int32} (hx : x = nI k) : decide (0 ≤ x ∧ x < 20) = true := decide_eq_true ⟨by rw [hx]; exact nI_pos' (by omega), by rw [hx]; exact nI_lt (b := 20) h (by decide)⟩
set_option maxHeartbeats 4000000 in
set_option maxRecDepth 100000 in
theorem kX0_change (lx : Launch) (g : zG) (N : Nat) (I : Nat → Nat → Int32) (P : Nat → Nat → Option Nat) (J : Nat → Nat → Int64) (b k : Nat) (hb : b < 40) (hk : k < 20) (x v : Int32) (hx : x = nI k) : z_Ct lx yX0_change (zT yX0_change cX0_change 4 (Option.some FieldType.int)) ({ frames := 1, cells := 0, slots := 0, locals := 21 } : Room) g N I P J [.ref (g.1 b), .int x, .int v] (zMu (some (.int (I (40 + b) k))) (z_u I (40 + b) k v) P J) 0 0 := by
  refine z_of (by decide) (Nat.le_of_ble_eq_true rfl) (lv0 := [(0, .ref (g.1 b)), (1, .int x), (2, .int v)]) rfl ?_
  intro C hlx hC hE hRm
  have hC : zX C cX0_change 4 RX0 (zT yX0_change cX0_change 4 (Option.some FieldType.int)) g N := hC
  refine z_aload_n (pc := 0) hC 0 dX0_change_0 rfl rfl z_isr_r ?_
  refine z_iload_n (pc := 1) hC 1 dX0_change_1 rfl rfl ?_
  refine z_cV (pc := 2) (st := []) hC [.int x] (kX0_of C.2.1 g N I P J b k hb hk x hx _ rfl) (z_shb hb) (z_ltb hC hb) rfl zkX0_of zm_2_106 ⟨rfl, rfl⟩ rfl rfl hRm ⟨Nat.le_of_ble_eq_true rfl, Nat.le_of_ble_eq_true rfl⟩ (Nat.le_of_ble_eq_true rfl) ⟨Nat.zero_le _, Nat.zero_le _⟩ dX0_change_2 ?_
  refine z_istore_n (pc := 5) (lv' := [(3, .int (I (40 + b) k)), (0, .ref (g.1 b)), (1, .int x), (2, .int v)]) hC dX0_change_5 rfl (by decide) rfl ?_
  refine z_iload_n (pc := 6) hC 2 dX0_change_6 rfl rfl ?_
  refine z_cSN (pc := 7) (st := []) hC [.int x] (kX5_isProperty C.2.1 g N I P J x) zkX5_isProperty (hC.2.2.2.2.2.1.2.2.2.2.2.2.2.2.2.2) ⟨rfl, rfl⟩ rfl rfl hRm ⟨Nat.le_of_ble_eq_true rfl, Nat.le_of_ble_eq_true rfl⟩ (Nat.le_of_ble_eq_true rfl) ⟨Nat.zero_le _, Nat.zero_le _⟩ dX0_change_7 ?_
  refine z_if_eq (pc := 10) (tgt := 20) hC dX0_change_10 (by decide) (fun h10 => ?_) (fun h10 => ?_)
  · skip
    have g10 := zB_f h10
    exact absurd (g10.symm.trans (z_isP hk hx)) (by decide)
  · skip
    have g10 := zB_t h10
    refine z_aload_n (pc := 13) hC 1 dX0_change_13 rfl rfl z_isr_r ?_
    refine z_gF (pc := 14) hC 0 1 (t := 40 + b) (z_shb hb) (z_ltb hC hb) rfl inX0 (by decide) rfl zm_1_38 (z_fxb hb) dX0_change_14 ?_
    refine z_iload_n (pc := 17) hC 2 dX0_change_17 rfl rfl ?_
    refine z_iload_n (pc := 18) hC 3 dX0_change_18 rfl rfl ?_
    refine z_isN (pc := 19) hC k (z_shs hb) (z_lts hC hb) hx hk (by decide) dX0_change_19 ?_
    refine z_iload_n (pc := 20) hC 0 dX0_change_20 rfl rfl ?_
    exact z_iret (pc := 21) hC hE dX0_change_21 (zMu_i rfl)
set_option maxHeartbeats 4000000 in
set_option maxRecDepth 100000 in
theorem kX0_unlink (lx : Launch) (g : zG) (N : Nat) (I : Nat → Nat → Int32) (P : Nat → Nat → Option Nat) (J : Nat → Nat → Int64) (b : Nat) (hb : b < 40) : z_Ct lx yX0_unlink (zT yX0_unlink cX0_unlink 1 (Option.none : Option FieldType)) ({ frames := 0, cells := 0, slots := 0, locals := 0 } : Room) g N I P J [.ref (g.1 b)] (zMu none (z_u (z_u (z_u I b 4 0) b 5 0) b 8 0) (z_u (z_u P b 6 none) b 7 none) J) 0 0 := by
  refine z_of (by decide) (Nat.le_of_ble_eq_true rfl) (lv0 := [(0, .ref (g.1 b))]) rfl ?_
  intro C hlx hC hE hRm
  have hC : zX C cX0_unlink 1 RX0 (zT yX0_unlink cX0_unlink 1 (Option.none : Option FieldType)) g N := hC
  refine z_aload_n (pc := 0) hC 0 dX0_unlink_0 rfl rfl z_isr_r ?_
  refine z_iconst (pc := 1) (v := 0) hC dX0_unlink_1 rfl ?_
  refine z_pI (pc := 2) hC 0 4 (z_shb hb) (z_ltb hC hb) rfl inX0 tyX0_ok nmX0 (by decide) rfl zm_1_47 rfl (z_b01 (Or.inl rfl)) (z_f01 (Or.inl rfl)) dX0_unlink_2 ?_
  refine z_aload_n (pc := 5) hC 0 dX0_unlink_5 rfl rfl z_isr_r ?_
  refine z_iconst (pc := 6) (v := 0) hC dX0_unlink_6 rfl ?_
  refine z_pI (pc := 7) hC 0 5 (z_shb hb) (z_ltb hC hb) rfl inX0 tyX0_ok nmX0 (by decide) rfl zm_1_50 rfl (z_b01 (Or.inl rfl)) (z_f01 (Or.inl rfl)) dX0_unlink_7 ?_
  refine z_aload_n (pc := 10) hC 0 dX0_unlink_10 rfl rfl z_isr_r ?_
  refine z_null (pc := 11) hC dX0_unlink_11 ?_
  refine z_pP (pc := 12) hC 0 6 (r := none) (z_shb hb) (z_ltb hC hb) rfl inX0 tyX0_ok nmX0 (by decide) rfl zm_1_54 rfl rfl rfl dX0_unlink_12 ?_
  refine z_aload_n (pc := 15) hC 0 dX0_unlink_15 rfl rfl z_isr_r ?_
  refine z_null (pc := 16) hC dX0_unlink_16 ?_
  refine z_pP (pc := 17) hC 0 7 (r := none) (z_shb hb) (z_ltb hC hb) rfl inX0 tyX0_ok nmX0 (by decide) rfl zm_1_57 rfl rfl rfl dX0_unlink_17 ?_
  refine z_aload_n (pc := 20) hC 0 dX0_unlink_20 rfl rfl z_isr_r ?_
  refine z_iconst (pc := 21) (v := 0) hC dX0_unlink_21 rfl ?_
  refine z_pI (pc := 22) hC 0 8 (z_shb hb) (z_ltb hC hb) rfl inX0 tyX0_ok nmX0 (by decide) rfl zm_1_60 rfl rfl rfl dX0_unlink_22 ?_
  exact z_vret (pc := 25) hC hE dX0_unlink_25 (zMu_i rfl)
/-- I, but the first n places of id as f has them -/
def zrow (f : Nat → Int32) (I : Nat → Nat → Int32) (id n : Nat) : Nat → Nat → Int32 := fun a j => if a = id ∧ j < n then f j else I a j
theorem zrow_0 (f : Nat → Int32) (I : Nat → Nat → Int32) (id : Nat) : zrow f I id 0 = I := by
  funext a j
  exact if_neg (fun h => Nat.not_lt_zero _ h.2)
theorem zrow_s (f : Nat → Int32) (I : Nat → Nat → Int32) (id n : Nat) : z_u (zrow f I id n) id n (f n) = zrow f I id (n + 1) := by
  funext a j
  unfold z_u zrow
  by_cases h : a = id
  · by_cases h2 : j = n
    · subst h2
      simp [h]
    · by_cases h3 : j < n
      · simp [h, h2, h3, Nat.lt_succ_of_lt h3]
      · simp [h, h2, h3, show ¬ j < n + 1 by omega]
  · simp [h]
/-- a counter against its end -/
theorem zc_lt {i n : Nat} (h : ¬ nI n ≤ nI i) (hi : i < 2 ^ 31) (hn : n < 2 ^ 31) : i < n := Nat.not_le.mp (fun q => h (nI_le q hi))
theorem zc_ge {i n : Nat} (h : nI n ≤ nI i) (hi : i < 2 ^ 31) (hn : n < 2 ^ 31) : n ≤ i := Nat.not_lt.mp (fun q => nI_ge q hn h)
set_option maxHeartbeats 4000000 in
set_option maxRecDepth 100000 in
theorem kX0_begin (lx : Launch) (g : zG) (N : Nat) (I : Nat → Nat → Int32) (P : Nat → Nat → Option Nat) (J : Nat → Nat → Int64) (b : Nat) (hb : b < 40) (a : Option Nat) : z_Ct lx yX0_begin (zT yX0_begin cX0_begin 3 (Option.none : Option FieldType)) ({ frames := 0, cells := 0, slots := 0, locals := 0 } : Room) g N I P J [.ref (g.1 b), va_rf (Option.map g.1 a)] (zMu none (zrow (z_st 2) (z_u I b 2 1) (40 + b) 20) (z_u P b 3 a) J) 0 0 := by
  refine z_of (by decide) (by simp [lg_sl, z_catO, z_catR, z_catI, z_catL, z_catN]) (lv0 := [(0, .ref (g.1 b)), (1, va_rf (Option.map g.1 a))]) (by simp [lv_args, z_catO, z_catR, z_catI, z_catL, z_catN]) ?_
  intro C hlx hC hE hRm
  have hC : zX C cX0_begin 3 RX0 (zT yX0_begin cX0_begin 3 (Option.none : Option FieldType)) g N := hC
  refine z_aload_n (pc := 0) hC 0 dX0_begin_0 rfl rfl z_isr_r ?_
  refine z_aload_n (pc := 1) hC 1 dX0_begin_1 rfl rfl (z_isr_o _) ?_
  refine z_pP (pc := 2) hC 0 3 (r := a) (z_shb hb) (z_ltb hC hb) rfl inX0 tyX0_ok nmX0 (by decide) rfl zm_1_42 rfl rfl rfl dX0_begin_2 ?_
  refine z_aload_n (pc := 5) hC 0 dX0_begin_5 rfl rfl z_isr_r ?_
  refine z_iconst (pc := 6) (v := 1) hC dX0_begin_6 rfl ?_
  refine z_pI (pc := 7) hC 0 2 (z_shb hb) (z_ltb hC hb) rfl inX0 tyX0_ok nmX0 (by decide) rfl zm_1_39 rfl (z_b01 (Or.inr rfl)) (z_f01 (Or.inr rfl)) dX0_begin_7 ?_
  refine z_iconst (pc := 10) (v := 0) hC dX0_begin_10 rfl ?_
  refine z_istore_n (pc := 11) (lv' := [(2, .int 0), (0, .ref (g.1 b)), (1, va_rf (Option.map g.1 a))]) hC dX0_begin_11 rfl (by decide) (by simp [z_catO]) ?_
  have L12 : ∀ (zf : Nat) (i : Nat) (hi : i ≤ 20), 20 - i < zf → zJ C g N 3 0 0 (zrow (z_st 2) (z_u I b 2 1) (40 + b) i) (z_u P b 3 a) J 12 [(2, .int (nI i)), (0, .ref (g.1 b)), (1, va_rf (Option.map g.1 a))] [] := by
    intro zf
    induction zf with
    | zero =>
      intro i hi hn2
      exact absurd hn2 (Nat.not_lt_zero _)
    | succ zf ih =>
      intro i hi hn2
      refine z_iload_n (pc := 12) hC 0 dX0_begin_12 rfl rfl ?_
      refine z_bipush (pc := 13) (v := 20) hC dX0_begin_13 rfl ?_
      refine z_icmp_ge (pc := 15) (tgt := 35) hC dX0_begin_15 (by decide) (fun h15 => ?_) (fun h15 => ?_)
      · skip
        have g15 := Int32.not_lt.mpr h15
        have e15 : i = 20 := Nat.le_antisymm hi (zc_ge (n := 20) h15 (by omega) (by decide))
        subst e15
        exact z_vret (pc := 35) hC hE dX0_begin_35 (zMu_i rfl)
      · skip
        have g15 := Int32.not_le.mp h15
        have e15 : i < 20 := zc_lt (n := 20) h15 (by omega) (by decide)
        refine z_aload_n (pc := 18) hC 1 dX0_begin_18 rfl rfl z_isr_r ?_
        refine z_gF (pc := 19) hC 0 1 (t := 40 + b) (z_shb hb) (z_ltb hC hb) rfl inX0 (by decide) rfl zm_1_38 (z_fxb hb) dX0_begin_19 ?_
        refine z_iload_n (pc := 22) hC 0 dX0_begin_22 rfl rfl ?_
        refine z_getsN (pc := 23) hC 2 (hC.2.2.2.2.2.1.2.2.2.1) (hC.2.2.2.2.2.1.2.2.2.2.1) dX0_begin_23 ?_
        refine z_iload_n (pc := 26) hC 0 dX0_begin_26 rfl rfl ?_
        refine z_saN (pc := 27) hC 2 i (hC.2.2.2.2.2.1.2.2.2.1) rfl e15 dX0_begin_27 ?_
        refine z_isN (pc := 28) hC i (z_shs hb) (z_lts hC hb) rfl e15 (by decide) dX0_begin_28 ?_
        refine z_iinc (pc := 29) (v := nI (i + 1)) (lv' := [(2, .int (nI (i + 1))), (0, .ref (g.1 b)), (1, va_rf (Option.map g.1 a))]) hC 0 dX0_begin_29 rfl (nI_1 i) (by decide) (by simp [z_catO]) ?_
        refine z_goto (pc := 32) (tgt := 12) hC dX0_begin_32 (by decide) ?_
        rw [zrow_s]
        exact ih (i + 1) (by omega) (by omega)
  have L := L12 21 0 (by decide) (by decide)
  rw [zrow_0] at L
  exact L
end ZL1
