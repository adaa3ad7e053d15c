section ZL1
def zB (c : Bool) : Int32 := if c = true then 1 else 0
theorem zB_f {c : Bool} (h : zB c = 0) : c = false := by cases c with | false => rfl | true => exact absurd h (by decide)
theorem zB_t {c : Bool} (h : ¬ zB c = 0) : c = true := by cases c with | true => rfl | false => exact absurd rfl h
theorem zB_01 (c : Bool) : zB c = 0 ∨ zB c = 1 := by cases c with | false => exact Or.inl rfl | true => exact Or.inr rfl
/-- limited(x, least, greatest) -/
def zlim (x lo hi : Int32) : Int32 := if lo < (if x < hi then x else hi) then (if x < hi then x else hi) else lo
def zgap (n gp : Int32) : Int32 := if 1 < n then (n - 1) * gp else 0
def zpos (x : Int32) : Int32 := if x < 0 then 0 else x
def zlimW (I : Nat → Nat → Int32) (P : Nat → Nat → Option Nat) (b : Nat) (x : Int32) : Int32 := if (P b 3).isNone = true then x else zlim x (I (40 + b) 12) (I (40 + b) 14)
def zlimH (I : Nat → Nat → Int32) (P : Nat → Nat → Option Nat) (b : Nat) (x : Int32) : Int32 := if (P b 3).isNone = true then x else zlim x (I (40 + b) 13) (I (40 + b) 15)
def zinW (I : Nat → Nat → Int32) (b : Nat) : Int32 := zpos (I b 14 - 2 * I (40 + b) 5)
def zinH (I : Nat → Nat → Int32) (b : Nat) : Int32 := zpos (I b 15 - 2 * I (40 + b) 5)
def zfix (I : Nat → Nat → Int32) (P : Nat → Nat → Option Nat) (b k : Nat) : Int32 := if (P b 3).isNone = true then -1 else I (40 + b) k
def zali (I : Nat → Nat → Int32) (P : Nat → Nat → Option Nat) (b : Nat) : Int32 := if I (40 + b) 16 = -1 then (match P b 3 with | none => I (40 + b) 16 | some p => I (40 + p) 3) else I (40 + b) 16
def zfit (w : Int32) : Int32 := if w / 8 < 1 then 1 else w / 8
def ztl (t w : Int32) : Int32 := (t + zfit w - 1) / zfit w
theorem zkX5_limited : z_pkS yX5_limited cX5_limited 4 (Option.some FieldType.int) 3 := ⟨zm_2_58, zm_1_1, zm_2_59, by decide, by decide, by decide +kernel⟩
theorem zkX5_gaps : z_pkS yX5_gaps cX5_gaps 2 (Option.some FieldType.int) 2 := ⟨zm_2_40, zm_1_1, zm_2_41, by decide, by decide, by decide +kernel⟩
theorem zkX5_isProperty : z_pkS yX5_isProperty cX5_isProperty 1 (Option.some FieldType.boolean) 1 := ⟨zm_3_111, zm_1_1, zm_3_112, by decide, by decide, by decide +kernel⟩
theorem zkX5_isViewportLength : z_pkS yX5_isViewportLength cX5_isViewportLength 1 (Option.some FieldType.boolean) 1 := ⟨zm_3_147, zm_1_1, zm_3_148, by decide, by decide, by decide +kernel⟩
theorem zkX0_of : z_pkV yX0_of cX0_of 2 (Option.some FieldType.int) RX0 1 := ⟨zm_2_12, zm_2_13, zm_1_3, zm_2_14, rfl, by decide, by decide, by decide +kernel⟩
theorem zkX0_change : z_pkV yX0_change cX0_change 4 (Option.some FieldType.int) RX0 2 := ⟨zm_3_120, zm_3_121, zm_1_3, zm_3_122, rfl, by decide, by decide, by decide +kernel⟩
theorem zkX0_isRoot : z_pkV yX0_isRoot cX0_isRoot 1 (Option.some FieldType.boolean) RX0 0 := ⟨zm_2_32, zm_2_33, zm_1_3, zm_2_34, rfl, by decide, by decide, by decide +kernel⟩
theorem zkX0_parentNumber : z_pkV yX0_parentNumber cX0_parentNumber 1 (Option.some FieldType.int) RX0 0 := ⟨zm_3_93, zm_3_94, zm_1_3, zm_3_95, rfl, by decide, by decide, by decide +kernel⟩
theorem zkX0_isColumn : z_pkV yX0_isColumn cX0_isColumn 1 (Option.some FieldType.boolean) RX0 0 := ⟨zm_2_50, zm_2_51, zm_1_3, zm_2_52, rfl, by decide, by decide, by decide +kernel⟩
theorem zkX0_wraps : z_pkV yX0_wraps cX0_wraps 1 (Option.some FieldType.boolean) RX0 0 := ⟨zm_2_87, zm_2_88, zm_1_3, zm_2_89, rfl, by decide, by decide, by decide +kernel⟩
theorem zkX0_unlink : z_pkV yX0_unlink cX0_unlink 1 (Option.none : Option FieldType) RX0 0 := ⟨zm_2_8, zm_2_9, zm_1_3, zm_2_10, rfl, by decide, by decide, by decide +kernel⟩
theorem zkX0_adopt : z_pkV yX0_adopt cX0_adopt 4 (Option.none : Option FieldType) RX0 1 := ⟨zm_2_16, zm_2_17, zm_1_3, zm_2_18, rfl, by decide, by decide, by decide +kernel⟩
theorem zkX0_innerWidth : z_pkV yX0_innerWidth cX0_innerWidth 1 (Option.some FieldType.int) RX0 0 := ⟨zm_2_68, zm_2_69, zm_1_3, zm_2_70, rfl, by decide, by decide, by decide +kernel⟩
theorem zkX0_innerHeight : z_pkV yX0_innerHeight cX0_innerHeight 1 (Option.some FieldType.int) RX0 0 := ⟨zm_2_161, zm_2_162, zm_1_3, zm_2_163, rfl, by decide, by decide, by decide +kernel⟩
theorem zkX0_margins : z_pkV yX0_margins cX0_margins 1 (Option.some FieldType.int) RX0 0 := ⟨zm_2_43, zm_2_44, zm_1_3, zm_2_45, rfl, by decide, by decide, by decide +kernel⟩
theorem zkX0_limitWidth : z_pkV yX0_limitWidth cX0_limitWidth 2 (Option.some FieldType.int) RX0 1 := ⟨zm_2_54, zm_2_55, zm_1_3, zm_2_56, rfl, by decide, by decide, by decide +kernel⟩
theorem zkX0_limitHeight : z_pkV yX0_limitHeight cX0_limitHeight 2 (Option.some FieldType.int) RX0 1 := ⟨zm_2_153, zm_2_154, zm_1_3, zm_2_155, rfl, by decide, by decide, by decide +kernel⟩
theorem zkX0_fixedSize : z_pkV yX0_fixedSize cX0_fixedSize 2 (Option.some FieldType.int) RX0 1 := ⟨zm_2_28, zm_2_29, zm_1_3, zm_2_30, rfl, by decide, by decide, by decide +kernel⟩
theorem zkX0_alignment : z_pkV yX0_alignment cX0_alignment 1 (Option.some FieldType.int) RX0 0 := ⟨zm_2_73, zm_2_74, zm_1_3, zm_2_75, rfl, by decide, by decide, by decide +kernel⟩
theorem zkX0_textLines : z_pkV yX0_textLines cX0_textLines 2 (Option.some FieldType.int) RX0 0 := ⟨zm_2_142, zm_2_143, zm_1_3, zm_2_144, rfl, by decide, by decide, by decide +kernel⟩
theorem zkX0_covers : z_pkV yX0_covers cX0_covers 3 (Option.some FieldType.boolean) RX0 2 := ⟨zm_2_184, zm_2_185, zm_1_3, zm_2_186, rfl, by decide, by decide, by decide +kernel⟩
theorem zkX0_begin : z_pkV yX0_begin cX0_begin 3 (Option.none : Option FieldType) RX0 1 := ⟨zm_1_127, zm_1_128, zm_1_3, zm_1_129, rfl, by decide, by decide, by decide +kernel⟩
set_option maxHeartbeats 4000000 in
set_option maxRecDepth 100000 in
theorem kX5_limited (l : Launch) (g : zG) (N : Nat) (I : Nat → Nat → Int32) (P : Nat → Nat → Option Nat) (J : Nat → Nat → Int64) (x lo hi : Int32) : z_Ct l yX5_limited (zT yX5_limited cX5_limited 4 (Option.some FieldType.int)) ({ frames := 0, cells := 0, slots := 0, locals := 0 } : Room) g N I P J [.int x, .int lo, .int hi] (zMu (some (.int (zlim x lo hi))) I P J) 0 0 := by
  refine z_of (by decide) (Nat.le_of_ble_eq_true rfl) (lv0 := [(0, .int x), (1, .int lo), (2, .int hi)]) rfl ?_
  intro C hl hC hE hRm
  have hC : zX C cX5_limited 4 RX5 (zT yX5_limited cX5_limited 4 (Option.some FieldType.int)) g N := hC
  refine z_iload_n (pc := 0) hC 0 dX5_limited_0 rfl rfl ?_
  refine z_iload_n (pc := 1) hC 2 dX5_limited_1 rfl rfl ?_
  refine z_icmp_ge (pc := 2) (tgt := 9) hC dX5_limited_2 (by decide) (fun h2 => ?_) (fun h2 => ?_)
  · skip
    have g2 := Int32.not_lt.mpr h2
    refine z_iload_n (pc := 9) hC 2 dX5_limited_9 rfl rfl ?_
    refine z_istore_n (pc := 10) (lv' := [(3, .int hi), (0, .int x), (1, .int lo), (2, .int hi)]) hC dX5_limited_10 rfl (by decide) rfl ?_
    refine z_iload_n (pc := 11) hC 0 dX5_limited_11 rfl rfl ?_
    refine z_iload_n (pc := 12) hC 2 dX5_limited_12 rfl rfl ?_
    refine z_icmp_le (pc := 13) (tgt := 20) hC dX5_limited_13 (by decide) (fun h13 => ?_) (fun h13 => ?_)
    · skip
      have g13 := Int32.not_lt.mpr h13
      refine z_iload_n (pc := 20) hC 2 dX5_limited_20 rfl rfl ?_
      exact z_iret (pc := 21) hC hE dX5_limited_21 (zMu_i (by simp [zlim, h2, g2, h13, g13]))
    · skip
      have g13 := Int32.not_le.mp h13
      refine z_iload_n (pc := 16) hC 0 dX5_limited_16 rfl rfl ?_
      refine z_goto (pc := 17) (tgt := 21) hC dX5_limited_17 (by decide) ?_
      exact z_iret (pc := 21) hC hE dX5_limited_21 (zMu_i (by simp [zlim, h2, g2, h13, g13]))
  · skip
    have g2 := Int32.not_le.mp h2
    refine z_iload_n (pc := 5) hC 0 dX5_limited_5 rfl rfl ?_
    refine z_goto (pc := 6) (tgt := 10) hC dX5_limited_6 (by decide) ?_
    refine z_istore_n (pc := 10) (lv' := [(3, .int x), (0, .int x), (1, .int lo), (2, .int hi)]) hC dX5_limited_10 rfl (by decide) rfl ?_
    refine z_iload_n (pc := 11) hC 0 dX5_limited_11 rfl rfl ?_
    refine z_iload_n (pc := 12) hC 2 dX5_limited_12 rfl rfl ?_
    refine z_icmp_le (pc := 13) (tgt := 20) hC dX5_limited_13 (by decide) (fun h13 => ?_) (fun h13 => ?_)
    · skip
      have g13 := Int32.not_lt.mpr h13
      refine z_iload_n (pc := 20) hC 2 dX5_limited_20 rfl rfl ?_
      exact z_iret (pc := 21) hC hE dX5_limited_21 (zMu_i (by simp [zlim, h2, g2, h13, g13]))
    · skip
      have g13 := Int32.not_le.mp h13
      refine z_iload_n (pc := 16) hC 0 dX5_limited_16 rfl rfl ?_
      refine z_goto (pc := 17) (tgt := 21) hC dX5_limited_17 (by decide) ?_
      exact z_iret (pc := 21) hC hE dX5_limited_21 (zMu_i (by simp [zlim, h2, g2, h13, g13]))
set_option maxHeartbeats 4000000 in
set_option maxRecDepth 100000 in
theorem kX5_gaps (l : Launch) (g : zG) (N : Nat) (I : Nat → Nat → Int32) (P : Nat → Nat → Option Nat) (J : Nat → Nat → Int64) (n gp : Int32) : z_Ct l yX5_gaps (zT yX5_gaps cX5_gaps 2 (Option.some FieldType.int)) ({ frames := 0, cells := 0, slots := 0, locals := 0 } : Room) g N I P J [.int n, .int gp] (zMu (some (.int (zgap n gp))) I P J) 0 0 := by
  refine z_of (by decide) (Nat.le_of_ble_eq_true rfl) (lv0 := [(0, .int n), (1, .int gp)]) rfl ?_
  intro C hl hC hE hRm
  have hC : zX C cX5_gaps 2 RX5 (zT yX5_gaps cX5_gaps 2 (Option.some FieldType.int)) g N := hC
  refine z_iload_n (pc := 0) hC 0 dX5_gaps_0 rfl rfl ?_
  refine z_iconst (pc := 1) (v := 1) hC dX5_gaps_1 rfl ?_
  refine z_icmp_le (pc := 2) (tgt := 13) hC dX5_gaps_2 (by decide) (fun h2 => ?_) (fun h2 => ?_)
  · skip
    have g2 := Int32.not_lt.mpr h2
    refine z_iconst (pc := 13) (v := 0) hC dX5_gaps_13 rfl ?_
    exact z_iret (pc := 14) hC hE dX5_gaps_14 (zMu_i (by simp [zgap, h2, g2]))
  · skip
    have g2 := Int32.not_le.mp h2
    refine z_iload_n (pc := 5) hC 0 dX5_gaps_5 rfl rfl ?_
    refine z_iconst (pc := 6) (v := 1) hC dX5_gaps_6 rfl ?_
    refine z_isub (pc := 7) hC dX5_gaps_7 ?_
    refine z_iload_n (pc := 8) hC 1 dX5_gaps_8 rfl rfl ?_
    refine z_imul (pc := 9) hC dX5_gaps_9 ?_
    refine z_goto (pc := 10) (tgt := 14) hC dX5_gaps_10 (by decide) ?_
    exact z_iret (pc := 14) hC hE dX5_gaps_14 (zMu_i (by simp [zgap, h2, g2]))
set_option maxHeartbeats 4000000 in
set_option maxRecDepth 100000 in
theorem kX5_isProperty (l : Launch) (g : zG) (N : Nat) (I : Nat → Nat → Int32) (P : Nat → Nat → Option Nat) (J : Nat → Nat → Int64) (p : Int32) : z_Ct l yX5_isProperty (zT yX5_isProperty cX5_isProperty 1 (Option.some FieldType.boolean)) ({ frames := 0, cells := 0, slots := 0, locals := 0 } : Room) g N I P J [.int p] (zMu (some (.int (zB (decide (0 ≤ p ∧ p < 20))))) I P J) 0 0 := by
  refine z_of (by decide) (Nat.le_of_ble_eq_true rfl) (lv0 := [(0, .int p)]) rfl ?_
  intro C hl hC hE hRm
  have hC : zX C cX5_isProperty 1 RX5 (zT yX5_isProperty cX5_isProperty 1 (Option.some FieldType.boolean)) g N := hC
  refine z_iload_n (pc := 0) hC 0 dX5_isProperty_0 rfl rfl ?_
  refine z_if_lt (pc := 1) (tgt := 14) hC dX5_isProperty_1 (by decide) (fun h1 => ?_) (fun h1 => ?_)
  · skip
    have g1 := Int32.not_le.mpr h1
    refine z_iconst (pc := 14) (v := 0) hC dX5_isProperty_14 rfl ?_
    exact z_zret (pc := 15) hC hE (z_b01 (Or.inl rfl)) dX5_isProperty_15 (zMu_i (by simp [zB, h1, g1]))
  · skip
    have g1 := Int32.not_lt.mp h1
    refine z_iload_n (pc := 4) hC 0 dX5_isProperty_4 rfl rfl ?_
    refine z_bipush (pc := 5) (v := 20) hC dX5_isProperty_5 rfl ?_
    refine z_icmp_ge (pc := 7) (tgt := 14) hC dX5_isProperty_7 (by decide) (fun h7 => ?_) (fun h7 => ?_)
    · skip
      have g7 := Int32.not_lt.mpr h7
      refine z_iconst (pc := 14) (v := 0) hC dX5_isProperty_14 rfl ?_
      exact z_zret (pc := 15) hC hE (z_b01 (Or.inl rfl)) dX5_isProperty_15 (zMu_i (by simp [zB, h1, g1, h7, g7]))
    · skip
      have g7 := Int32.not_le.mp h7
      refine z_iconst (pc := 10) (v := 1) hC dX5_isProperty_10 rfl ?_
      refine z_goto (pc := 11) (tgt := 15) hC dX5_isProperty_11 (by decide) ?_
      exact z_zret (pc := 15) hC hE (z_b01 (Or.inr rfl)) dX5_isProperty_15 (zMu_i (by simp [zB, h1, g1, h7, g7]))
set_option maxHeartbeats 4000000 in
set_option maxRecDepth 100000 in
theorem kX5_isViewportLength (l : Launch) (g : zG) (N : Nat) (I : Nat → Nat → Int32) (P : Nat → Nat → Option Nat) (J : Nat → Nat → Int64) (p : Int32) : z_Ct l yX5_isViewportLength (zT yX5_isViewportLength cX5_isViewportLength 1 (Option.some FieldType.boolean)) ({ frames := 0, cells := 0, slots := 0, locals := 0 } : Room) g N I P J [.int p] (zMu (some (.int (zB (decide (0 ≤ p ∧ p ≤ 2000))))) I P J) 0 0 := by
  refine z_of (by decide) (Nat.le_of_ble_eq_true rfl) (lv0 := [(0, .int p)]) rfl ?_
  intro C hl hC hE hRm
  have hC : zX C cX5_isViewportLength 1 RX5 (zT yX5_isViewportLength cX5_isViewportLength 1 (Option.some FieldType.boolean)) g N := hC
  refine z_iload_n (pc := 0) hC 0 dX5_isViewportLength_0 rfl rfl ?_
  refine z_if_lt (pc := 1) (tgt := 15) hC dX5_isViewportLength_1 (by decide) (fun h1 => ?_) (fun h1 => ?_)
  · skip
    have g1 := Int32.not_le.mpr h1
    refine z_iconst (pc := 15) (v := 0) hC dX5_isViewportLength_15 rfl ?_
    exact z_zret (pc := 16) hC hE (z_b01 (Or.inl rfl)) dX5_isViewportLength_16 (zMu_i (by simp [zB, h1, g1]))
  · skip
    have g1 := Int32.not_lt.mp h1
    refine z_iload_n (pc := 4) hC 0 dX5_isViewportLength_4 rfl rfl ?_
    refine z_sipush (pc := 5) (v := 2000) hC dX5_isViewportLength_5 rfl ?_
    refine z_icmp_gt (pc := 8) (tgt := 15) hC dX5_isViewportLength_8 (by decide) (fun h8 => ?_) (fun h8 => ?_)
    · skip
      have g8 := Int32.not_le.mpr h8
      refine z_iconst (pc := 15) (v := 0) hC dX5_isViewportLength_15 rfl ?_
      exact z_zret (pc := 16) hC hE (z_b01 (Or.inl rfl)) dX5_isViewportLength_16 (zMu_i (by simp [zB, h1, g1, h8, g8]))
    · skip
      have g8 := Int32.not_lt.mp h8
      refine z_iconst (pc := 11) (v := 1) hC dX5_isViewportLength_11 rfl ?_
      refine z_goto (pc := 12) (tgt := 16) hC dX5_isViewportLength_12 (by decide) ?_
      exact z_zret (pc := 16) hC hE (z_b01 (Or.inr rfl)) dX5_isViewportLength_16 (zMu_i (by simp [zB, h1, g1, h8, g8]))
set_option maxHeartbeats 4000000 in
set_option maxRecDepth 100000 in
theorem kX0_of (l : Launch) (g : zG) (N : Nat) (I : Nat → Nat → Int32) (P : Nat → Nat → Option Nat) (J : Nat → Nat → Int64) (b k : Nat) (hb : b < 40) (hk : k < 20) (x : Int32) (hx : x = nI k) : z_Ct l yX0_of (zT yX0_of cX0_of 2 (Option.some FieldType.int)) ({ frames := 0, cells := 0, slots := 0, locals := 0 } : Room) g N I P J [.ref (g.1 b), .int x] (zMu (some (.int (I (40 + b) k))) I P J) 0 0 := by
  refine z_of (by decide) (Nat.le_of_ble_eq_true rfl) (lv0 := [(0, .ref (g.1 b)), (1, .int x)]) rfl ?_
  intro C hl hC hE hRm
  have hC : zX C cX0_of 2 RX0 (zT yX0_of cX0_of 2 (Option.some FieldType.int)) g N := hC
  refine z_iload_n (pc := 0) hC 1 dX0_of_0 rfl rfl ?_
  refine z_if_lt (pc := 1) (tgt := 19) hC dX0_of_1 (by decide) (fun h1 => ?_) (fun h1 => ?_)
  · skip
    have g1 := Int32.not_le.mpr h1
    exact absurd h1 (by rw [hx]; exact nI_pos (by omega))
  · skip
    have g1 := Int32.not_lt.mp h1
    refine z_iload_n (pc := 4) hC 1 dX0_of_4 rfl rfl ?_
    refine z_bipush (pc := 5) (v := 20) hC dX0_of_5 rfl ?_
    refine z_icmp_ge (pc := 7) (tgt := 19) hC dX0_of_7 (by decide) (fun h7 => ?_) (fun h7 => ?_)
    · skip
      have g7 := Int32.not_lt.mpr h7
      exact absurd h7 (by rw [hx]; intro q; exact nI_ge (a := k) (b := 20) hk (by decide) q)
    · skip
      have g7 := Int32.not_le.mp h7
      refine z_aload_n (pc := 10) hC 0 dX0_of_10 rfl rfl z_isr_r ?_
      refine z_gF (pc := 11) hC 0 1 (t := 40 + b) (z_shb hb) (z_ltb hC hb) rfl inX0 (by decide) rfl zm_1_41 (z_fxb hb) dX0_of_11 ?_
      refine z_iload_n (pc := 14) hC 1 dX0_of_14 rfl rfl ?_
      refine z_iaN (pc := 15) hC k (x := I (40 + b) k) (z_shs hb) (z_lts hC hb) hx hk (by decide) rfl dX0_of_15 ?_
      refine z_goto (pc := 16) (tgt := 20) hC dX0_of_16 (by decide) ?_
      exact z_iret (pc := 20) hC hE dX0_of_20 (zMu_i rfl)
set_option maxHeartbeats 4000000 in
set_option maxRecDepth 100000 in
theorem kX0_isRoot (l : Launch) (g : zG) (N : Nat) (I : Nat → Nat → Int32) (P : Nat → Nat → Option Nat) (J : Nat → Nat → Int64) (b : Nat) (hb : b < 40) : z_Ct l yX0_isRoot (zT yX0_isRoot cX0_isRoot 1 (Option.some FieldType.boolean)) ({ frames := 0, cells := 0, slots := 0, locals := 0 } : Room) g N I P J [.ref (g.1 b)] (zMu (some (.int (zB (P b 3).isNone))) I P J) 0 0 := by
  refine z_of (by decide) (Nat.le_of_ble_eq_true rfl) (lv0 := [(0, .ref (g.1 b))]) rfl ?_
  intro C hl hC hE hRm
  have hC : zX C cX0_isRoot 1 RX0 (zT yX0_isRoot cX0_isRoot 1 (Option.some FieldType.boolean)) g N := hC
  refine z_aload_n (pc := 0) hC 0 dX0_isRoot_0 rfl rfl z_isr_r ?_
  refine z_gP (pc := 1) hC 0 3 (v := va_rf (Option.map g.1 (P b 3))) (z_shb hb) (z_ltb hC hb) rfl inX0 (by decide) rfl zm_1_46 rfl dX0_isRoot_1 ?_
  refine z_ifnonnull (pc := 4) (tgt := 11) hC dX0_isRoot_4 (by decide) (fun a4 h4 => ?_) (fun h4 => ?_)
  · skip
    refine z_iconst (pc := 11) (v := 0) hC dX0_isRoot_11 rfl ?_
    exact z_zret (pc := 12) hC hE (z_b01 (Or.inl rfl)) dX0_isRoot_12 (zMu_i (by simp [zB, h4]))
  · skip
    refine z_iconst (pc := 7) (v := 1) hC dX0_isRoot_7 rfl ?_
    refine z_goto (pc := 8) (tgt := 12) hC dX0_isRoot_8 (by decide) ?_
    exact z_zret (pc := 12) hC hE (z_b01 (Or.inr rfl)) dX0_isRoot_12 (zMu_i (by simp [zB, h4]))
set_option maxHeartbeats 4000000 in
set_option maxRecDepth 100000 in
theorem kX0_parentNumber (l : Launch) (g : zG) (N : Nat) (I : Nat → Nat → Int32) (P : Nat → Nat → Option Nat) (J : Nat → Nat → Int64) (b : Nat) (hb : b < 40) (hp : ∀ a, P b 3 = some a → a < 40) (hn : ∀ a, a < 40 → I a 0 = nI a) : z_Ct l yX0_parentNumber (zT yX0_parentNumber cX0_parentNumber 1 (Option.some FieldType.int)) ({ frames := 0, cells := 0, slots := 0, locals := 0 } : Room) g N I P J [.ref (g.1 b)] (zMu (some (.int (match P b 3 with | none => -1 | some a => nI a))) I P J) 0 0 := by
  refine z_of (by decide) (Nat.le_of_ble_eq_true rfl) (lv0 := [(0, .ref (g.1 b))]) rfl ?_
  intro C hl hC hE hRm
  have hC : zX C cX0_parentNumber 1 RX0 (zT yX0_parentNumber cX0_parentNumber 1 (Option.some FieldType.int)) g N := hC
  refine z_aload_n (pc := 0) hC 0 dX0_parentNumber_0 rfl rfl z_isr_r ?_
  refine z_gP (pc := 1) hC 0 3 (v := va_rf (Option.map g.1 (P b 3))) (z_shb hb) (z_ltb hC hb) rfl inX0 (by decide) rfl zm_1_46 rfl dX0_parentNumber_1 ?_
  refine z_ifnonnull (pc := 4) (tgt := 11) hC dX0_parentNumber_4 (by decide) (fun a4 h4 => ?_) (fun h4 => ?_)
  · skip
    refine z_aload_n (pc := 11) hC 0 dX0_parentNumber_11 rfl rfl z_isr_r ?_
    refine z_gP (pc := 12) hC 0 3 (v := .ref (g.1 a4)) (z_shb hb) (z_ltb hC hb) rfl inX0 (by decide) rfl zm_1_46 (by rw [h4]; rfl) dX0_parentNumber_12 ?_
    refine z_gI (pc := 15) hC 0 0 (x := nI a4) (z_shb (hp a4 h4)) (z_ltb hC (hp a4 h4)) rfl inX0 (by decide) rfl zm_1_37 (hn a4 (hp a4 h4)) dX0_parentNumber_15 ?_
    exact z_iret (pc := 18) hC hE dX0_parentNumber_18 (zMu_i (by simp [h4, h4]))
  · skip
    refine z_iconst (pc := 7) (v := (-1)) hC dX0_parentNumber_7 rfl ?_
    refine z_goto (pc := 8) (tgt := 18) hC dX0_parentNumber_8 (by decide) ?_
    exact z_iret (pc := 18) hC hE dX0_parentNumber_18 (zMu_i (by simp [h4, h4]))
end ZL1
