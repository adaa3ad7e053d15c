section ZM23
/-- the model's memory holds the layout -/
def mAr (σ : zS) (I : Nat → Nat → Int32) : Prop := ∀ b, sSh σ b = true → I 101 (2 * b + 0) = sNW σ b ∧ I 101 (2 * b + 1) = sNH σ b ∧ I 103 (2 * b + 0) = sX σ b ∧ I 103 (2 * b + 1) = sY σ b ∧ I 102 (2 * b + 0) = sWD σ b ∧ I 102 (2 * b + 1) = sHT σ b ∧ I 105 b = sLC σ (sNW σ) b (sWD σ b) ∧ I 104 b = nI (sLi σ b)
theorem zwd_WD {σ : zS} (hw : sWF σ) {I Ir : Nat → Nat → Int32} {J Jr : Nat → Nat → Int64} (h : zwd σ (sGv σ) I J Ir Jr) : (∀ b, sSh σ b = true → Ir 102 (2 * b + 0) = sWD σ b) ∧ (∀ b, sSh σ b = true → Ir 105 b = sLC σ (sNW σ) b (sWD σ b)) ∧ (∀ p, sSh σ p = true → ∀ k, k < kn σ p → Ir 104 (kd σ p k) = nI (sLn σ (sNW σ) p (sWD σ p) k)) ∧ ∀ b, sSh σ b = true → Ir 104 b = nI (sLi σ b) := by
  have gv : ∀ b, sSh σ b = true → b < sGv σ := fun b hb => hw.2.2.2.1 b (sSh_ex hw hb).2
  refine ⟨fun b hb => h.2.2.2.1 b hb ?_, fun b hb => h.2.2.2.2.1 b (gv b hb) hb, fun p hp => h.2.2.2.2.2 p (gv p hp) hp, fun b hb => ?_⟩
  · by_cases h0 : b = 0
    · exact Or.inl h0
    · exact Or.inr (gv _ (sSh_kid hw hb h0).2)
  · unfold sLi
    by_cases h0 : b = 0
    · rw [if_pos h0, h0, h.2.2.1]
      rfl
    · rw [if_neg h0]
      obtain ⟨hk, hp⟩ := sSh_kid hw hb h0
      obtain ⟨i, hi, e⟩ := kd_of hk
      have q := h.2.2.2.2.2 _ (gv _ hp) hp i hi
      have ei := (sIx_kd hw hi).2
      rw [e] at q ei
      rw [q, ei]
theorem mAr_end {σ : zS} (hw : sWF σ) {I Ia Ib Ic Id Ie : Nat → Nat → Int32} {J Jc Je : Nat → Nat → Int64} (h1 : zmsh σ (sGv σ) I Ia) (h2 : zNa σ 0 (sNW σ) 0 Ia Ib) (h3 : zwd σ (sGv σ) Ib J Ic Jc) (h4 : zNa σ 1 (sNH σ) 0 Ic Id) (h5 : zpd σ (sGv σ) Id Jc Ie Je) : mAr σ Ie ∧ (∀ q j, ¬ (99 ≤ q ∧ q < 110) → ¬ (q = 95 ∧ j = 5) → Ie q j = I q j) ∧ (∀ q j, q ≠ 107 → Je q j = J q j) ∧ ∀ c, c < sGv σ → Ie 100 c = zB (sSh σ c) := by
  obtain ⟨w1, w2, w3, w4⟩ := zwd_WD hw h3
  have gv : ∀ b, sSh σ b = true → b < sGv σ := fun b hb => hw.2.2.2.1 b (sSh_ex hw hb).2
  refine ⟨fun b hb => ?_, fun q j k1 k2 => ?_, fun q j hq => (h5.2.1 q j hq).trans (h3.2.1 q j hq), fun c hc => ?_⟩
  · obtain ⟨p1, p2, p3⟩ := h5.2.2 b hb (by
      by_cases h0 : b = 0
      · exact Or.inl h0
      · exact Or.inr (gv _ (sSh_kid hw hb h0).2))
    refine ⟨?_, ?_, p2, p3, ?_, p1, ?_, ?_⟩
    · rw [h5.1 101 _ (by decide) (by decide) (by decide) (by decide) (by omega) (by omega), h4.1 101 _ (by decide) (by omega) (by omega), h3.1 101 _ (by decide) (by decide) (by decide) (by decide) (by decide) (by decide) (by omega)]
      exact h2.2 b (Nat.zero_le _) hb
    · rw [h5.1 101 _ (by decide) (by decide) (by decide) (by decide) (by omega) (by omega)]
      exact h4.2 b (Nat.zero_le _) hb
    · rw [h5.1 102 _ (by decide) (by decide) (by decide) (by decide) (by omega) (by omega), h4.1 102 _ (by decide) (by omega) (by omega)]
      exact w1 b hb
    · rw [h5.1 105 _ (by decide) (by decide) (by decide) (by decide) (by omega) (by omega), h4.1 105 _ (by decide) (by omega) (by omega)]
      exact w2 b hb
    · rw [h5.1 104 _ (by decide) (by decide) (by decide) (by decide) (by omega) (by omega), h4.1 104 _ (by decide) (by omega) (by omega)]
      exact w4 b hb
  · rw [h5.1 q j (by omega) (by omega) (by omega) (by omega) k2 (by omega), h4.1 q j (by omega) k2 (by omega), h3.1 q j (by omega) (by omega) (by omega) (by omega) (by omega) (by omega) k2, h2.1 q j (by omega) k2 (by omega), h1.1 q j (by omega)]
  · rw [h5.1 100 c (by decide) (by decide) (by decide) (by decide) (by omega) (by omega), h4.1 100 c (by decide) (by omega) (by omega), h3.1 100 c (by decide) (by decide) (by decide) (by decide) (by decide) (by decide) (by omega), h2.1 100 c (by decide) (by omega) (by omega)]
    exact h1.2 c hc
/-- what layOut leaves -/
def zloQ (σ : zS) (I : Nat → Nat → Int32) (P : Nat → Nat → Option Nat) (J : Nat → Nat → Int64) : Option Value → (Nat → Nat → Int32) → (Nat → Nat → Option Nat) → (Nat → Nat → Int64) → Prop := fun v I' P' J' => v = none ∧ P' = P ∧ mAr σ I' ∧ (∀ q j, ¬ (99 ≤ q ∧ q < 110) → ¬ (q = 95 ∧ j = 5) → I' q j = I q j) ∧ (∀ q j, q ≠ 107 → J' q j = J q j) ∧ ∀ c, c < sGv σ → I' 100 c = zB (sSh σ c)
set_option maxHeartbeats 4000000 in
set_option maxRecDepth 100000 in
theorem kX6_layOut (lx : Launch) (g : zG) (N : Nat) (I : Nat → Nat → Int32) (P : Nat → Nat → Option Nat) (J : Nat → Nat → Int64) {σ : zS} (hm : zMd σ I) : z_Ct lx yX6_layOut (zT yX6_layOut cX6_layOut 1 (Option.none : Option FieldType)) ({ frames := 7, cells := 0, slots := 0, locals := 175 } : Room) g N I P J [.ref (g.1 95)] (zloQ σ I P J) 0 0 := by
  refine z_of (by decide) (Nat.le_of_ble_eq_true rfl) (lv0 := [(0, .ref (g.1 95))]) rfl ?_
  intro C hlx hC hE hRm
  have hC : zX C cX6_layOut 1 RX6 (zT yX6_layOut cX6_layOut 1 (Option.none : Option FieldType)) g N := hC
  refine z_aload_n (pc := 0) hC 0 dX6_layOut_0 rfl rfl z_isr_r ?_
  refine z_callV (pc := 1) (st := []) hC [] (kX6_findShown C.2.1 g N I P J hm) rfl (z_lt hC (by decide)) rfl zkX6_findShown zm_4_200 ⟨rfl, rfl⟩ rfl rfl hRm ⟨Nat.le_of_ble_eq_true rfl, Nat.le_of_ble_eq_true rfl⟩ (Nat.le_of_ble_eq_true rfl) ⟨Nat.zero_le _, Nat.zero_le _⟩ dX6_layOut_1 ?_
  intro v4 I4 P4 J4 hq
  obtain ⟨hv, hP, hJ, h1⟩ := hq
  subst hv
  rw [hP, hJ]
  have hm1 := hm.eq (fun k => h1.1 96 k (by decide))
  show zJ C g N 1 0 0 I4 P J 4 [(0, .ref (g.1 95))] []
  refine z_aload_n (pc := 4) hC 0 dX6_layOut_4 rfl rfl z_isr_r ?_
  refine z_callV (pc := 5) (st := []) hC [] (kX6_findNaturalWidths C.2.1 g N I4 P J hm1 h1.2) rfl (z_lt hC (by decide)) rfl zkX6_findNaturalWidths zm_4_208 ⟨rfl, rfl⟩ rfl rfl hRm ⟨Nat.le_of_ble_eq_true rfl, Nat.le_of_ble_eq_true rfl⟩ (Nat.le_of_ble_eq_true rfl) ⟨Nat.zero_le _, Nat.zero_le _⟩ dX6_layOut_5 ?_
  intro v8 I8 P8 J8 hq
  obtain ⟨hv, hP, hJ, h2⟩ := hq
  subst hv
  rw [hP, hJ]
  have hm2 := hm1.eq (fun k => h2.1 96 k (by decide) (by omega) (by omega))
  show zJ C g N 1 0 0 I8 P J 8 [(0, .ref (g.1 95))] []
  refine z_aload_n (pc := 8) hC 0 dX6_layOut_8 rfl rfl z_isr_r ?_
  refine z_callV (pc := 9) (st := []) hC [] (kX6_findWidths C.2.1 g N I8 P J hm2 (fun c hc => (h2.1 100 c (by decide) (by omega) (by omega)).trans (h1.2 c hc)) (fun b hb => h2.2 b (Nat.zero_le _) hb)) rfl (z_lt hC (by decide)) rfl zkX6_findWidths zm_4_236 ⟨rfl, rfl⟩ rfl rfl hRm ⟨Nat.le_of_ble_eq_true rfl, Nat.le_of_ble_eq_true rfl⟩ (Nat.le_of_ble_eq_true rfl) ⟨Nat.zero_le _, Nat.zero_le _⟩ dX6_layOut_9 ?_
  intro v12 I12 P12 J12 hq
  obtain ⟨hv, hP, h3⟩ := hq
  subst hv
  rw [hP]
  have hm3 := hm2.eq (fun k => h3.1 96 k (by decide) (by decide) (by decide) (by decide) (by decide) (by decide) (by omega))
  obtain ⟨w1, w2, w3, w4⟩ := zwd_WD hm.1 h3
  have s3 : ∀ c, c < sGv σ → I12 100 c = zB (sSh σ c) := fun c hc => (h3.1 100 c (by decide) (by decide) (by decide) (by decide) (by decide) (by decide) (by omega)).trans ((h2.1 100 c (by decide) (by omega) (by omega)).trans (h1.2 c hc))
  show zJ C g N 1 0 0 I12 P J12 12 [(0, .ref (g.1 95))] []
  refine z_aload_n (pc := 12) hC 0 dX6_layOut_12 rfl rfl z_isr_r ?_
  refine z_callV (pc := 13) (st := []) hC [] (kX6_findNaturalHeights C.2.1 g N I12 P J12 hm3 s3 w2 w3) rfl (z_lt hC (by decide)) rfl zkX6_findNaturalHeights zm_5_55 ⟨rfl, rfl⟩ rfl rfl hRm ⟨Nat.le_of_ble_eq_true rfl, Nat.le_of_ble_eq_true rfl⟩ (Nat.le_of_ble_eq_true rfl) ⟨Nat.zero_le _, Nat.zero_le _⟩ dX6_layOut_13 ?_
  intro v16 I16 P16 J16 hq
  obtain ⟨hv, hP, hJ, h4⟩ := hq
  subst hv
  rw [hP, hJ]
  have hm4 := hm3.eq (fun k => h4.1 96 k (by decide) (by omega) (by omega))
  show zJ C g N 1 0 0 I16 P J12 16 [(0, .ref (g.1 95))] []
  refine z_aload_n (pc := 16) hC 0 dX6_layOut_16 rfl rfl z_isr_r ?_
  refine z_callV (pc := 17) (st := []) hC [] (kX6_findPlaces C.2.1 g N I16 P J12 hm4 (fun c hc => (h4.1 100 c (by decide) (by omega) (by omega)).trans (s3 c hc)) (fun b hb => (h4.1 102 _ (by decide) (by omega) (by omega)).trans (w1 b hb)) (fun b hb => h4.2 b (Nat.zero_le _) hb) (fun b hb => (h4.1 105 _ (by decide) (by omega) (by omega)).trans (w2 b hb)) (fun p hp k hk => (h4.1 104 _ (by decide) (by omega) (by omega)).trans (w3 p hp k hk))) rfl (z_lt hC (by decide)) rfl zkX6_findPlaces zm_5_67 ⟨rfl, rfl⟩ rfl rfl hRm ⟨Nat.le_of_ble_eq_true rfl, Nat.le_of_ble_eq_true rfl⟩ (Nat.le_of_ble_eq_true rfl) ⟨Nat.zero_le _, Nat.zero_le _⟩ dX6_layOut_17 ?_
  intro v20 I20 P20 J20 hq
  obtain ⟨hv, hP, h5⟩ := hq
  subst hv
  rw [hP]
  show zJ C g N 1 0 0 I20 P J20 20 [(0, .ref (g.1 95))] []
  exact z_vret (pc := 20) hC hE dX6_layOut_20 ⟨rfl, rfl, mAr_end hm.1 h1 h2 h3 h4 h5⟩
/-- what hasLayout answers -/
def zhlQ (σ : zS) (x : Int32) (I : Nat → Nat → Int32) (P : Nat → Nat → Option Nat) (J : Nat → Nat → Int64) : Option Value → (Nat → Nat → Int32) → (Nat → Nat → Option Nat) → (Nat → Nat → Int64) → Prop := fun v I' P' J' => ∃ c : Bool, v = some (.int (zB c)) ∧ (c = true → ∃ b, x = nI b ∧ b < 40 ∧ sEx σ b = true ∧ sSh σ b = true ∧ I' 95 3 = 0 ∧ mAr σ I' ∧ ∀ c, c < sGv σ → I' 100 c = zB (sSh σ c)) ∧ (c = false → (zbx σ x = false ∧ I' 95 3 = 1) ∨ ∃ b, x = nI b ∧ b < 40 ∧ sEx σ b = true ∧ sSh σ b = false ∧ I' 95 3 = 2) ∧ zMd σ I' ∧ zKm I P J I' P' J'
theorem zKm.sh {σ : zS} {n : Nat} {I I1 : Nat → Nat → Int32} {P P1 : Nat → Nat → Option Nat} {J J1 : Nat → Nat → Int64} {I2 : Nat → Nat → Int32} (h : zKm I P J I1 P1 J1) (h2 : zmsh σ n I1 I2) : zKm I P J I2 P1 J1 := ⟨h.1, h.2.1, fun q j hq => (h2.1 q j (by omega)).trans (h.2.2 q j hq)⟩
theorem zKm.lo {I I1 : Nat → Nat → Int32} {P P1 : Nat → Nat → Option Nat} {J J1 : Nat → Nat → Int64} {I2 : Nat → Nat → Int32} {J2 : Nat → Nat → Int64} (h : zKm I P J I1 P1 J1) (h2 : ∀ q j, ¬ (99 ≤ q ∧ q < 110) → ¬ (q = 95 ∧ j = 5) → I2 q j = I1 q j) (h3 : ∀ q j, q ≠ 107 → J2 q j = J1 q j) : zKm I P J I2 P1 J2 := ⟨h.1, fun q j hq => (h3 q j hq).trans (h.2.1 q j hq), fun q j hq => (h2 q j (by omega) (by omega)).trans (h.2.2 q j hq)⟩
set_option maxHeartbeats 4000000 in
set_option maxRecDepth 100000 in
theorem kX6_hasLayout (lx : Launch) (g : zG) (N : Nat) (I : Nat → Nat → Int32) (P : Nat → Nat → Option Nat) (J : Nat → Nat → Int64) {σ : zS} (hm : zMd σ I) (x : Int32) : z_Ct lx yX6_hasLayout (zT yX6_hasLayout cX6_hasLayout 2 (Option.some FieldType.boolean)) ({ frames := 8, cells := 0, slots := 0, locals := 195 } : Room) g N I P J [.ref (g.1 95), .int x] (zhlQ σ x I P J) 0 0 := by
  refine z_of (by decide) (Nat.le_of_ble_eq_true rfl) (lv0 := [(0, .ref (g.1 95)), (1, .int x)]) rfl ?_
  intro C hlx hC hE hRm
  have hC : zX C cX6_hasLayout 2 RX6 (zT yX6_hasLayout cX6_hasLayout 2 (Option.some FieldType.boolean)) g N := hC
  refine z_aload_n (pc := 0) hC 0 dX6_hasLayout_0 rfl rfl z_isr_r ?_
  refine z_aload_n (pc := 1) hC 0 dX6_hasLayout_1 rfl rfl z_isr_r ?_
  refine z_iload_n (pc := 2) hC 1 dX6_hasLayout_2 rfl rfl ?_
  refine z_cV (pc := 3) (st := [.ref (g.1 95)]) hC [.int x] (kX6_isBox C.2.1 g N I P J hm x) rfl (z_lt hC (by decide)) rfl zkX6_isBox zm_4_131 ⟨rfl, rfl⟩ rfl rfl hRm ⟨Nat.le_of_ble_eq_true rfl, Nat.le_of_ble_eq_true rfl⟩ (Nat.le_of_ble_eq_true rfl) ⟨Nat.zero_le _, Nat.zero_le _⟩ dX6_hasLayout_3 ?_
  refine z_if_eq (pc := 6) (tgt := 13) hC dX6_hasLayout_6 (by decide) (fun h6 => ?_) (fun h6 => ?_)
  · skip
    have g6 := zB_f h6
    refine z_iconst (pc := 13) (v := 1) hC dX6_hasLayout_13 rfl ?_
    refine z_pI (pc := 14) hC 6 3 rfl (z_lt hC (by decide)) rfl inX6 tyX6_ok nmX6 (by decide) rfl zm_4_76 rfl rfl rfl dX6_hasLayout_14 ?_
    refine z_aload_n (pc := 17) hC 0 dX6_hasLayout_17 rfl rfl z_isr_r ?_
    refine z_gI (pc := 18) hC 6 3 (x := 1) rfl (z_lt hC (by decide)) rfl inX6 (by decide) rfl zm_4_76 (z_u_s _ _ _ _) dX6_hasLayout_18 ?_
    refine z_if_ne (pc := 21) (tgt := 46) hC dX6_hasLayout_21 (by decide) (fun h21 => ?_) (fun h21 => ?_)
    · skip
      refine z_aload_n (pc := 46) hC 0 dX6_hasLayout_46 rfl rfl z_isr_r ?_
      refine z_gI (pc := 47) hC 6 3 (x := 1) rfl (z_lt hC (by decide)) rfl inX6 (by decide) rfl zm_4_76 (z_u_s _ _ _ _) dX6_hasLayout_47 ?_
      refine z_if_ne (pc := 50) (tgt := 57) hC dX6_hasLayout_50 (by decide) (fun h50 => ?_) (fun h50 => ?_)
      · skip
        refine z_aload_n (pc := 57) hC 0 dX6_hasLayout_57 rfl rfl z_isr_r ?_
        refine z_gI (pc := 58) hC 6 3 (x := 1) rfl (z_lt hC (by decide)) rfl inX6 (by decide) rfl zm_4_76 (z_u_s _ _ _ _) dX6_hasLayout_58 ?_
        refine z_if_ne (pc := 61) (tgt := 68) hC dX6_hasLayout_61 (by decide) (fun h61 => ?_) (fun h61 => ?_)
        · skip
          refine z_iconst (pc := 68) (v := 0) hC dX6_hasLayout_68 rfl ?_
          exact z_zret (pc := 69) hC hE (z_b01 (Or.inl rfl)) dX6_hasLayout_69 ⟨false, rfl, fun h => (by cases h), fun _ => Or.inl ⟨g6, z_u_s _ _ _ _⟩, hm.u (by decide), zKm.rf.u (by decide)⟩
        · skip
          exact absurd h61 (by decide)
      · skip
        exact absurd h50 (by decide)
    · skip
      exact absurd h21 (by decide)
  · skip
    have g6 := zB_t h6
    obtain ⟨b, rfl, hb, he⟩ := zbx_iff.mp g6
    refine z_iconst (pc := 9) (v := 0) hC dX6_hasLayout_9 rfl ?_
    refine z_goto (pc := 10) (tgt := 14) hC dX6_hasLayout_10 (by decide) ?_
    refine z_pI (pc := 14) hC 6 3 rfl (z_lt hC (by decide)) rfl inX6 tyX6_ok nmX6 (by decide) rfl zm_4_76 rfl rfl rfl dX6_hasLayout_14 ?_
    refine z_aload_n (pc := 17) hC 0 dX6_hasLayout_17 rfl rfl z_isr_r ?_
    refine z_gI (pc := 18) hC 6 3 (x := 0) rfl (z_lt hC (by decide)) rfl inX6 (by decide) rfl zm_4_76 (z_u_s _ _ _ _) dX6_hasLayout_18 ?_
    refine z_if_ne (pc := 21) (tgt := 46) hC dX6_hasLayout_21 (by decide) (fun h21 => ?_) (fun h21 => ?_)
    · skip
      exact absurd h21 (by decide)
    · skip
      refine z_aload_n (pc := 24) hC 0 dX6_hasLayout_24 rfl rfl z_isr_r ?_
      refine z_callV (pc := 25) (st := []) hC [] (kX6_findShown C.2.1 g N (z_u I 95 3 0) P J (hm.u (by decide))) rfl (z_lt hC (by decide)) rfl zkX6_findShown zm_4_200 ⟨rfl, rfl⟩ rfl rfl hRm ⟨Nat.le_of_ble_eq_true rfl, Nat.le_of_ble_eq_true rfl⟩ (Nat.le_of_ble_eq_true rfl) ⟨Nat.zero_le _, Nat.zero_le _⟩ dX6_hasLayout_25 ?_
      intro v28 I28 P28 J28 hq
      obtain ⟨hv, hP, hJ, h1⟩ := hq
      subst hv
      rw [hP, hJ]
      have hm1 := (hm.u (i := 95) (k := 3) (v := 0) (by decide)).eq (fun k => h1.1 96 k (by decide))
      have hk1 := (zKm.rf (I := I) (P := P) (J := J)).u (i := 95) (k := 3) (v := 0) (by decide) |>.sh h1
      show zJ C g N 2 0 0 I28 P J 28 [(0, .ref (g.1 95)), (1, .int (nI b))] []
      refine z_aload_n (pc := 28) hC 0 dX6_hasLayout_28 rfl rfl z_isr_r ?_
      refine z_aload_n (pc := 29) hC 0 dX6_hasLayout_29 rfl rfl z_isr_r ?_
      refine z_gF (pc := 30) hC 6 6 (t := 100) rfl (z_lt hC (by decide)) rfl inX6 (by decide) rfl zm_4_79 rfl dX6_hasLayout_30 ?_
      refine z_iload_n (pc := 33) hC 1 dX6_hasLayout_33 rfl rfl ?_
      refine z_zaN (pc := 34) hC b (x := zB (sSh σ b)) rfl (z_lt hC (by decide)) rfl hb (by decide) (h1.2 b (hm.lt he).1) dX6_hasLayout_34 ?_
      refine z_if_eq (pc := 35) (tgt := 42) hC dX6_hasLayout_35 (by decide) (fun h35 => ?_) (fun h35 => ?_)
      · skip
        have g35 := zB_f h35
        refine z_iconst (pc := 42) (v := 2) hC dX6_hasLayout_42 rfl ?_
        refine z_pI (pc := 43) hC 6 3 rfl (z_lt hC (by decide)) rfl inX6 tyX6_ok nmX6 (by decide) rfl zm_4_76 rfl rfl rfl dX6_hasLayout_43 ?_
        refine z_aload_n (pc := 46) hC 0 dX6_hasLayout_46 rfl rfl z_isr_r ?_
        refine z_gI (pc := 47) hC 6 3 (x := 2) rfl (z_lt hC (by decide)) rfl inX6 (by decide) rfl zm_4_76 (z_u_s _ _ _ _) dX6_hasLayout_47 ?_
        refine z_if_ne (pc := 50) (tgt := 57) hC dX6_hasLayout_50 (by decide) (fun h50 => ?_) (fun h50 => ?_)
        · skip
          refine z_aload_n (pc := 57) hC 0 dX6_hasLayout_57 rfl rfl z_isr_r ?_
          refine z_gI (pc := 58) hC 6 3 (x := 2) rfl (z_lt hC (by decide)) rfl inX6 (by decide) rfl zm_4_76 (z_u_s _ _ _ _) dX6_hasLayout_58 ?_
          refine z_if_ne (pc := 61) (tgt := 68) hC dX6_hasLayout_61 (by decide) (fun h61 => ?_) (fun h61 => ?_)
          · skip
            refine z_iconst (pc := 68) (v := 0) hC dX6_hasLayout_68 rfl ?_
            exact z_zret (pc := 69) hC hE (z_b01 (Or.inl rfl)) dX6_hasLayout_69 ⟨false, rfl, fun h => (by cases h), fun _ => Or.inr ⟨b, rfl, hb, he, g35, z_u_s _ _ _ _⟩, hm1.u (by decide), hk1.u (by decide)⟩
          · skip
            exact absurd h61 (by decide)
        · skip
          exact absurd h50 (by decide)
      · skip
        have g35 := zB_t h35
        refine z_iconst (pc := 38) (v := 0) hC dX6_hasLayout_38 rfl ?_
        refine z_goto (pc := 39) (tgt := 43) hC dX6_hasLayout_39 (by decide) ?_
        refine z_pI (pc := 43) hC 6 3 rfl (z_lt hC (by decide)) rfl inX6 tyX6_ok nmX6 (by decide) rfl zm_4_76 rfl rfl rfl dX6_hasLayout_43 ?_
        refine z_aload_n (pc := 46) hC 0 dX6_hasLayout_46 rfl rfl z_isr_r ?_
        refine z_gI (pc := 47) hC 6 3 (x := 0) rfl (z_lt hC (by decide)) rfl inX6 (by decide) rfl zm_4_76 (z_u_s _ _ _ _) dX6_hasLayout_47 ?_
        refine z_if_ne (pc := 50) (tgt := 57) hC dX6_hasLayout_50 (by decide) (fun h50 => ?_) (fun h50 => ?_)
        · skip
          exact absurd h50 (by decide)
        · skip
          refine z_aload_n (pc := 53) hC 0 dX6_hasLayout_53 rfl rfl z_isr_r ?_
          refine z_callV (pc := 54) (st := []) hC [] (kX6_layOut C.2.1 g N (z_u I28 95 3 0) P J (hm1.u (by decide))) rfl (z_lt hC (by decide)) rfl zkX6_layOut zm_4_204 ⟨rfl, rfl⟩ rfl rfl hRm ⟨Nat.le_of_ble_eq_true rfl, Nat.le_of_ble_eq_true rfl⟩ (Nat.le_of_ble_eq_true rfl) ⟨Nat.zero_le _, Nat.zero_le _⟩ dX6_hasLayout_54 ?_
          intro v57 I57 P57 J57 hq
          obtain ⟨hv, hP, har, hfr, hfJ, hsh2⟩ := hq
          subst hv
          rw [hP]
          have h93 : I57 95 3 = 0 := (hfr 95 3 (by omega) (by omega)).trans (z_u_s _ _ _ _)
          have hm2 := (hm1.u (i := 95) (k := 3) (v := 0) (by decide)).eq (fun k => hfr 96 k (by omega) (by omega))
          show zJ C g N 2 0 0 I57 P J57 57 [(0, .ref (g.1 95)), (1, .int (nI b))] []
          refine z_aload_n (pc := 57) hC 0 dX6_hasLayout_57 rfl rfl z_isr_r ?_
          refine z_gI (pc := 58) hC 6 3 (x := 0) rfl (z_lt hC (by decide)) rfl inX6 (by decide) rfl zm_4_76 h93 dX6_hasLayout_58 ?_
          refine z_if_ne (pc := 61) (tgt := 68) hC dX6_hasLayout_61 (by decide) (fun h61 => ?_) (fun h61 => ?_)
          · skip
            exact absurd h61 (by decide)
          · skip
            refine z_iconst (pc := 64) (v := 1) hC dX6_hasLayout_64 rfl ?_
            refine z_goto (pc := 65) (tgt := 69) hC dX6_hasLayout_65 (by decide) ?_
            exact z_zret (pc := 69) hC hE (z_b01 (Or.inr rfl)) dX6_hasLayout_69 ⟨true, rfl, fun _ => ⟨b, rfl, hb, he, g35, h93, har, hsh2⟩, fun h => (by cases h), hm2, (hk1.u (i := 95) (k := 3) (v := 0) (by decide)).lo hfr hfJ⟩
/-- what a method that asks for a box's layout answers -/
def zGm (σ : zS) (x : Int32) (f : Nat → Int32) (I : Nat → Nat → Int32) (P : Nat → Nat → Option Nat) (J : Nat → Nat → Int64) : Option Value → (Nat → Nat → Int32) → (Nat → Nat → Option Nat) → (Nat → Nat → Int64) → Prop := fun v I' P' J' => (((zbx σ x = false ∧ I' 95 3 = 1) ∨ ∃ b, x = nI b ∧ b < 40 ∧ sEx σ b = true ∧ sSh σ b = false ∧ I' 95 3 = 2) ∨ ∃ b, x = nI b ∧ b < 40 ∧ sEx σ b = true ∧ sSh σ b = true ∧ v = some (.int (f b)) ∧ I' 95 3 = 0) ∧ zMd σ I' ∧ zKm I P J I' P' J'
set_option maxHeartbeats 4000000 in
set_option maxRecDepth 100000 in
theorem kX6_x (lx : Launch) (g : zG) (N : Nat) (I : Nat → Nat → Int32) (P : Nat → Nat → Option Nat) (J : Nat → Nat → Int64) {σ : zS} (hm : zMd σ I) (x : Int32) : z_Ct lx yX6_x (zT yX6_x cX6_x 2 (Option.some FieldType.int)) ({ frames := 9, cells := 0, slots := 0, locals := 216 } : Room) g N I P J [.ref (g.1 95), .int x] (zGm σ x (fun b => sX σ b) I P J) 0 0 := by
  refine z_of (by decide) (Nat.le_of_ble_eq_true rfl) (lv0 := [(0, .ref (g.1 95)), (1, .int x)]) rfl ?_
  intro C hlx hC hE hRm
  have hC : zX C cX6_x 2 RX6 (zT yX6_x cX6_x 2 (Option.some FieldType.int)) g N := hC
  refine z_aload_n (pc := 0) hC 0 dX6_x_0 rfl rfl z_isr_r ?_
  refine z_iload_n (pc := 1) hC 1 dX6_x_1 rfl rfl ?_
  refine z_callV (pc := 2) (st := []) hC [.int x] (kX6_hasLayout C.2.1 g N I P J hm x) rfl (z_lt hC (by decide)) rfl zkX6_hasLayout zm_4_196 ⟨rfl, rfl⟩ rfl rfl hRm ⟨Nat.le_of_ble_eq_true rfl, Nat.le_of_ble_eq_true rfl⟩ (Nat.le_of_ble_eq_true rfl) ⟨Nat.zero_le _, Nat.zero_le _⟩ dX6_x_2 ?_
  intro v I1 P1 J1 hq
  obtain ⟨c, hv, hct, hcf, hm1, hk1⟩ := hq
  subst hv
  show zJ C g N 2 0 0 I1 P1 J1 5 [(0, .ref (g.1 95)), (1, .int x)] [.int (zB c)]
  refine z_if_eq (pc := 5) (tgt := 19) hC dX6_x_5 (by decide) (fun h5 => ?_) (fun h5 => ?_)
  · skip
    have g5 := zB_f h5
    refine z_iconst (pc := 19) (v := 0) hC dX6_x_19 rfl ?_
    exact z_iret (pc := 20) hC hE dX6_x_20 ⟨Or.inl (hcf g5), hm1, hk1⟩
  · skip
    have g5 := zB_t h5
    obtain ⟨b, rfl, hb, he, hs, h3, har, hsh⟩ := hct g5
    refine z_aload_n (pc := 8) hC 0 dX6_x_8 rfl rfl z_isr_r ?_
    refine z_gF (pc := 9) hC 6 9 (t := 103) rfl (z_lt hC (by decide)) rfl inX6 (by decide) rfl zm_4_82 rfl dX6_x_9 ?_
    refine z_iconst (pc := 12) (v := 2) hC dX6_x_12 rfl ?_
    refine z_iload_n (pc := 13) hC 1 dX6_x_13 rfl rfl ?_
    refine z_imul (pc := 14) hC dX6_x_14 ?_
    refine z_iaN (pc := 15) hC (2 * b + 0) (x := sX σ b) rfl (z_lt hC (by decide)) (zix2z b) (by omega) (by decide) ((har b hs).2.2.1) dX6_x_15 ?_
    refine z_goto (pc := 16) (tgt := 20) hC dX6_x_16 (by decide) ?_
    exact z_iret (pc := 20) hC hE dX6_x_20 ⟨Or.inr ⟨b, rfl, hb, he, hs, rfl, h3⟩, hm1, hk1⟩
set_option maxHeartbeats 4000000 in
set_option maxRecDepth 100000 in
theorem kX6_y (lx : Launch) (g : zG) (N : Nat) (I : Nat → Nat → Int32) (P : Nat → Nat → Option Nat) (J : Nat → Nat → Int64) {σ : zS} (hm : zMd σ I) (x : Int32) : z_Ct lx yX6_y (zT yX6_y cX6_y 2 (Option.some FieldType.int)) ({ frames := 9, cells := 0, slots := 0, locals := 216 } : Room) g N I P J [.ref (g.1 95), .int x] (zGm σ x (fun b => sY σ b) I P J) 0 0 := by
  refine z_of (by decide) (Nat.le_of_ble_eq_true rfl) (lv0 := [(0, .ref (g.1 95)), (1, .int x)]) rfl ?_
  intro C hlx hC hE hRm
  have hC : zX C cX6_y 2 RX6 (zT yX6_y cX6_y 2 (Option.some FieldType.int)) g N := hC
  refine z_aload_n (pc := 0) hC 0 dX6_y_0 rfl rfl z_isr_r ?_
  refine z_iload_n (pc := 1) hC 1 dX6_y_1 rfl rfl ?_
  refine z_callV (pc := 2) (st := []) hC [.int x] (kX6_hasLayout C.2.1 g N I P J hm x) rfl (z_lt hC (by decide)) rfl zkX6_hasLayout zm_4_196 ⟨rfl, rfl⟩ rfl rfl hRm ⟨Nat.le_of_ble_eq_true rfl, Nat.le_of_ble_eq_true rfl⟩ (Nat.le_of_ble_eq_true rfl) ⟨Nat.zero_le _, Nat.zero_le _⟩ dX6_y_2 ?_
  intro v I1 P1 J1 hq
  obtain ⟨c, hv, hct, hcf, hm1, hk1⟩ := hq
  subst hv
  show zJ C g N 2 0 0 I1 P1 J1 5 [(0, .ref (g.1 95)), (1, .int x)] [.int (zB c)]
  refine z_if_eq (pc := 5) (tgt := 21) hC dX6_y_5 (by decide) (fun h5 => ?_) (fun h5 => ?_)
  · skip
    have g5 := zB_f h5
    refine z_iconst (pc := 21) (v := 0) hC dX6_y_21 rfl ?_
    exact z_iret (pc := 22) hC hE dX6_y_22 ⟨Or.inl (hcf g5), hm1, hk1⟩
  · skip
    have g5 := zB_t h5
    obtain ⟨b, rfl, hb, he, hs, h3, har, hsh⟩ := hct g5
    refine z_aload_n (pc := 8) hC 0 dX6_y_8 rfl rfl z_isr_r ?_
    refine z_gF (pc := 9) hC 6 9 (t := 103) rfl (z_lt hC (by decide)) rfl inX6 (by decide) rfl zm_4_82 rfl dX6_y_9 ?_
    refine z_iconst (pc := 12) (v := 2) hC dX6_y_12 rfl ?_
    refine z_iload_n (pc := 13) hC 1 dX6_y_13 rfl rfl ?_
    refine z_imul (pc := 14) hC dX6_y_14 ?_
    refine z_iconst (pc := 15) (v := 1) hC dX6_y_15 rfl ?_
    refine z_iadd (pc := 16) hC dX6_y_16 ?_
    refine z_iaN (pc := 17) hC (2 * b + 1) (x := sY σ b) rfl (z_lt hC (by decide)) (zix2 b 1) (by omega) (by decide) ((har b hs).2.2.2.1) dX6_y_17 ?_
    refine z_goto (pc := 18) (tgt := 22) hC dX6_y_18 (by decide) ?_
    exact z_iret (pc := 22) hC hE dX6_y_22 ⟨Or.inr ⟨b, rfl, hb, he, hs, rfl, h3⟩, hm1, hk1⟩
set_option maxHeartbeats 4000000 in
set_option maxRecDepth 100000 in
theorem kX6_width (lx : Launch) (g : zG) (N : Nat) (I : Nat → Nat → Int32) (P : Nat → Nat → Option Nat) (J : Nat → Nat → Int64) {σ : zS} (hm : zMd σ I) (x : Int32) : z_Ct lx yX6_width (zT yX6_width cX6_width 2 (Option.some FieldType.int)) ({ frames := 9, cells := 0, slots := 0, locals := 216 } : Room) g N I P J [.ref (g.1 95), .int x] (zGm σ x (fun b => sWD σ b) I P J) 0 0 := by
  refine z_of (by decide) (Nat.le_of_ble_eq_true rfl) (lv0 := [(0, .ref (g.1 95)), (1, .int x)]) rfl ?_
  intro C hlx hC hE hRm
  have hC : zX C cX6_width 2 RX6 (zT yX6_width cX6_width 2 (Option.some FieldType.int)) g N := hC
  refine z_aload_n (pc := 0) hC 0 dX6_width_0 rfl rfl z_isr_r ?_
  refine z_iload_n (pc := 1) hC 1 dX6_width_1 rfl rfl ?_
  refine z_callV (pc := 2) (st := []) hC [.int x] (kX6_hasLayout C.2.1 g N I P J hm x) rfl (z_lt hC (by decide)) rfl zkX6_hasLayout zm_4_196 ⟨rfl, rfl⟩ rfl rfl hRm ⟨Nat.le_of_ble_eq_true rfl, Nat.le_of_ble_eq_true rfl⟩ (Nat.le_of_ble_eq_true rfl) ⟨Nat.zero_le _, Nat.zero_le _⟩ dX6_width_2 ?_
  intro v I1 P1 J1 hq
  obtain ⟨c, hv, hct, hcf, hm1, hk1⟩ := hq
  subst hv
  show zJ C g N 2 0 0 I1 P1 J1 5 [(0, .ref (g.1 95)), (1, .int x)] [.int (zB c)]
  refine z_if_eq (pc := 5) (tgt := 19) hC dX6_width_5 (by decide) (fun h5 => ?_) (fun h5 => ?_)
  · skip
    have g5 := zB_f h5
    refine z_iconst (pc := 19) (v := 0) hC dX6_width_19 rfl ?_
    exact z_iret (pc := 20) hC hE dX6_width_20 ⟨Or.inl (hcf g5), hm1, hk1⟩
  · skip
    have g5 := zB_t h5
    obtain ⟨b, rfl, hb, he, hs, h3, har, hsh⟩ := hct g5
    refine z_aload_n (pc := 8) hC 0 dX6_width_8 rfl rfl z_isr_r ?_
    refine z_gF (pc := 9) hC 6 8 (t := 102) rfl (z_lt hC (by decide)) rfl inX6 (by decide) rfl zm_4_81 rfl dX6_width_9 ?_
    refine z_iconst (pc := 12) (v := 2) hC dX6_width_12 rfl ?_
    refine z_iload_n (pc := 13) hC 1 dX6_width_13 rfl rfl ?_
    refine z_imul (pc := 14) hC dX6_width_14 ?_
    refine z_iaN (pc := 15) hC (2 * b + 0) (x := sWD σ b) rfl (z_lt hC (by decide)) (zix2z b) (by omega) (by decide) ((har b hs).2.2.2.2.1) dX6_width_15 ?_
    refine z_goto (pc := 16) (tgt := 20) hC dX6_width_16 (by decide) ?_
    exact z_iret (pc := 20) hC hE dX6_width_20 ⟨Or.inr ⟨b, rfl, hb, he, hs, rfl, h3⟩, hm1, hk1⟩
set_option maxHeartbeats 4000000 in
set_option maxRecDepth 100000 in
theorem kX6_height (lx : Launch) (g : zG) (N : Nat) (I : Nat → Nat → Int32) (P : Nat → Nat → Option Nat) (J : Nat → Nat → Int64) {σ : zS} (hm : zMd σ I) (x : Int32) : z_Ct lx yX6_height (zT yX6_height cX6_height 2 (Option.some FieldType.int)) ({ frames := 9, cells := 0, slots := 0, locals := 216 } : Room) g N I P J [.ref (g.1 95), .int x] (zGm σ x (fun b => sHT σ b) I P J) 0 0 := by
  refine z_of (by decide) (Nat.le_of_ble_eq_true rfl) (lv0 := [(0, .ref (g.1 95)), (1, .int x)]) rfl ?_
  intro C hlx hC hE hRm
  have hC : zX C cX6_height 2 RX6 (zT yX6_height cX6_height 2 (Option.some FieldType.int)) g N := hC
  refine z_aload_n (pc := 0) hC 0 dX6_height_0 rfl rfl z_isr_r ?_
  refine z_iload_n (pc := 1) hC 1 dX6_height_1 rfl rfl ?_
  refine z_callV (pc := 2) (st := []) hC [.int x] (kX6_hasLayout C.2.1 g N I P J hm x) rfl (z_lt hC (by decide)) rfl zkX6_hasLayout zm_4_196 ⟨rfl, rfl⟩ rfl rfl hRm ⟨Nat.le_of_ble_eq_true rfl, Nat.le_of_ble_eq_true rfl⟩ (Nat.le_of_ble_eq_true rfl) ⟨Nat.zero_le _, Nat.zero_le _⟩ dX6_height_2 ?_
  intro v I1 P1 J1 hq
  obtain ⟨c, hv, hct, hcf, hm1, hk1⟩ := hq
  subst hv
  show zJ C g N 2 0 0 I1 P1 J1 5 [(0, .ref (g.1 95)), (1, .int x)] [.int (zB c)]
  refine z_if_eq (pc := 5) (tgt := 21) hC dX6_height_5 (by decide) (fun h5 => ?_) (fun h5 => ?_)
  · skip
    have g5 := zB_f h5
    refine z_iconst (pc := 21) (v := 0) hC dX6_height_21 rfl ?_
    exact z_iret (pc := 22) hC hE dX6_height_22 ⟨Or.inl (hcf g5), hm1, hk1⟩
  · skip
    have g5 := zB_t h5
    obtain ⟨b, rfl, hb, he, hs, h3, har, hsh⟩ := hct g5
    refine z_aload_n (pc := 8) hC 0 dX6_height_8 rfl rfl z_isr_r ?_
    refine z_gF (pc := 9) hC 6 8 (t := 102) rfl (z_lt hC (by decide)) rfl inX6 (by decide) rfl zm_4_81 rfl dX6_height_9 ?_
    refine z_iconst (pc := 12) (v := 2) hC dX6_height_12 rfl ?_
    refine z_iload_n (pc := 13) hC 1 dX6_height_13 rfl rfl ?_
    refine z_imul (pc := 14) hC dX6_height_14 ?_
    refine z_iconst (pc := 15) (v := 1) hC dX6_height_15 rfl ?_
    refine z_iadd (pc := 16) hC dX6_height_16 ?_
    refine z_iaN (pc := 17) hC (2 * b + 1) (x := sHT σ b) rfl (z_lt hC (by decide)) (zix2 b 1) (by omega) (by decide) ((har b hs).2.2.2.2.2.1) dX6_height_17 ?_
    refine z_goto (pc := 18) (tgt := 22) hC dX6_height_18 (by decide) ?_
    exact z_iret (pc := 22) hC hE dX6_height_22 ⟨Or.inr ⟨b, rfl, hb, he, hs, rfl, h3⟩, hm1, hk1⟩
set_option maxHeartbeats 4000000 in
set_option maxRecDepth 100000 in
theorem kX6_naturalWidth (lx : Launch) (g : zG) (N : Nat) (I : Nat → Nat → Int32) (P : Nat → Nat → Option Nat) (J : Nat → Nat → Int64) {σ : zS} (hm : zMd σ I) (x : Int32) : z_Ct lx yX6_naturalWidth (zT yX6_naturalWidth cX6_naturalWidth 2 (Option.some FieldType.int)) ({ frames := 9, cells := 0, slots := 0, locals := 216 } : Room) g N I P J [.ref (g.1 95), .int x] (zGm σ x (fun b => sNW σ b) I P J) 0 0 := by
  refine z_of (by decide) (Nat.le_of_ble_eq_true rfl) (lv0 := [(0, .ref (g.1 95)), (1, .int x)]) rfl ?_
  intro C hlx hC hE hRm
  have hC : zX C cX6_naturalWidth 2 RX6 (zT yX6_naturalWidth cX6_naturalWidth 2 (Option.some FieldType.int)) g N := hC
  refine z_aload_n (pc := 0) hC 0 dX6_naturalWidth_0 rfl rfl z_isr_r ?_
  refine z_iload_n (pc := 1) hC 1 dX6_naturalWidth_1 rfl rfl ?_
  refine z_callV (pc := 2) (st := []) hC [.int x] (kX6_hasLayout C.2.1 g N I P J hm x) rfl (z_lt hC (by decide)) rfl zkX6_hasLayout zm_4_196 ⟨rfl, rfl⟩ rfl rfl hRm ⟨Nat.le_of_ble_eq_true rfl, Nat.le_of_ble_eq_true rfl⟩ (Nat.le_of_ble_eq_true rfl) ⟨Nat.zero_le _, Nat.zero_le _⟩ dX6_naturalWidth_2 ?_
  intro v I1 P1 J1 hq
  obtain ⟨c, hv, hct, hcf, hm1, hk1⟩ := hq
  subst hv
  show zJ C g N 2 0 0 I1 P1 J1 5 [(0, .ref (g.1 95)), (1, .int x)] [.int (zB c)]
  refine z_if_eq (pc := 5) (tgt := 19) hC dX6_naturalWidth_5 (by decide) (fun h5 => ?_) (fun h5 => ?_)
  · skip
    have g5 := zB_f h5
    refine z_iconst (pc := 19) (v := 0) hC dX6_naturalWidth_19 rfl ?_
    exact z_iret (pc := 20) hC hE dX6_naturalWidth_20 ⟨Or.inl (hcf g5), hm1, hk1⟩
  · skip
    have g5 := zB_t h5
    obtain ⟨b, rfl, hb, he, hs, h3, har, hsh⟩ := hct g5
    refine z_aload_n (pc := 8) hC 0 dX6_naturalWidth_8 rfl rfl z_isr_r ?_
    refine z_gF (pc := 9) hC 6 7 (t := 101) rfl (z_lt hC (by decide)) rfl inX6 (by decide) rfl zm_4_80 rfl dX6_naturalWidth_9 ?_
    refine z_iconst (pc := 12) (v := 2) hC dX6_naturalWidth_12 rfl ?_
    refine z_iload_n (pc := 13) hC 1 dX6_naturalWidth_13 rfl rfl ?_
    refine z_imul (pc := 14) hC dX6_naturalWidth_14 ?_
    refine z_iaN (pc := 15) hC (2 * b + 0) (x := sNW σ b) rfl (z_lt hC (by decide)) (zix2z b) (by omega) (by decide) ((har b hs).1) dX6_naturalWidth_15 ?_
    refine z_goto (pc := 16) (tgt := 20) hC dX6_naturalWidth_16 (by decide) ?_
    exact z_iret (pc := 20) hC hE dX6_naturalWidth_20 ⟨Or.inr ⟨b, rfl, hb, he, hs, rfl, h3⟩, hm1, hk1⟩
set_option maxHeartbeats 4000000 in
set_option maxRecDepth 100000 in
theorem kX6_naturalHeight (lx : Launch) (g : zG) (N : Nat) (I : Nat → Nat → Int32) (P : Nat → Nat → Option Nat) (J : Nat → Nat → Int64) {σ : zS} (hm : zMd σ I) (x : Int32) : z_Ct lx yX6_naturalHeight (zT yX6_naturalHeight cX6_naturalHeight 2 (Option.some FieldType.int)) ({ frames := 9, cells := 0, slots := 0, locals := 216 } : Room) g N I P J [.ref (g.1 95), .int x] (zGm σ x (fun b => sNH σ b) I P J) 0 0 := by
  refine z_of (by decide) (Nat.le_of_ble_eq_true rfl) (lv0 := [(0, .ref (g.1 95)), (1, .int x)]) rfl ?_
  intro C hlx hC hE hRm
  have hC : zX C cX6_naturalHeight 2 RX6 (zT yX6_naturalHeight cX6_naturalHeight 2 (Option.some FieldType.int)) g N := hC
  refine z_aload_n (pc := 0) hC 0 dX6_naturalHeight_0 rfl rfl z_isr_r ?_
  refine z_iload_n (pc := 1) hC 1 dX6_naturalHeight_1 rfl rfl ?_
  refine z_callV (pc := 2) (st := []) hC [.int x] (kX6_hasLayout C.2.1 g N I P J hm x) rfl (z_lt hC (by decide)) rfl zkX6_hasLayout zm_4_196 ⟨rfl, rfl⟩ rfl rfl hRm ⟨Nat.le_of_ble_eq_true rfl, Nat.le_of_ble_eq_true rfl⟩ (Nat.le_of_ble_eq_true rfl) ⟨Nat.zero_le _, Nat.zero_le _⟩ dX6_naturalHeight_2 ?_
  intro v I1 P1 J1 hq
  obtain ⟨c, hv, hct, hcf, hm1, hk1⟩ := hq
  subst hv
  show zJ C g N 2 0 0 I1 P1 J1 5 [(0, .ref (g.1 95)), (1, .int x)] [.int (zB c)]
  refine z_if_eq (pc := 5) (tgt := 21) hC dX6_naturalHeight_5 (by decide) (fun h5 => ?_) (fun h5 => ?_)
  · skip
    have g5 := zB_f h5
    refine z_iconst (pc := 21) (v := 0) hC dX6_naturalHeight_21 rfl ?_
    exact z_iret (pc := 22) hC hE dX6_naturalHeight_22 ⟨Or.inl (hcf g5), hm1, hk1⟩
  · skip
    have g5 := zB_t h5
    obtain ⟨b, rfl, hb, he, hs, h3, har, hsh⟩ := hct g5
    refine z_aload_n (pc := 8) hC 0 dX6_naturalHeight_8 rfl rfl z_isr_r ?_
    refine z_gF (pc := 9) hC 6 7 (t := 101) rfl (z_lt hC (by decide)) rfl inX6 (by decide) rfl zm_4_80 rfl dX6_naturalHeight_9 ?_
    refine z_iconst (pc := 12) (v := 2) hC dX6_naturalHeight_12 rfl ?_
    refine z_iload_n (pc := 13) hC 1 dX6_naturalHeight_13 rfl rfl ?_
    refine z_imul (pc := 14) hC dX6_naturalHeight_14 ?_
    refine z_iconst (pc := 15) (v := 1) hC dX6_naturalHeight_15 rfl ?_
    refine z_iadd (pc := 16) hC dX6_naturalHeight_16 ?_
    refine z_iaN (pc := 17) hC (2 * b + 1) (x := sNH σ b) rfl (z_lt hC (by decide)) (zix2 b 1) (by omega) (by decide) ((har b hs).2.1) dX6_naturalHeight_17 ?_
    refine z_goto (pc := 18) (tgt := 22) hC dX6_naturalHeight_18 (by decide) ?_
    exact z_iret (pc := 22) hC hE dX6_naturalHeight_22 ⟨Or.inr ⟨b, rfl, hb, he, hs, rfl, h3⟩, hm1, hk1⟩
set_option maxHeartbeats 4000000 in
set_option maxRecDepth 100000 in
theorem kX6_lines (lx : Launch) (g : zG) (N : Nat) (I : Nat → Nat → Int32) (P : Nat → Nat → Option Nat) (J : Nat → Nat → Int64) {σ : zS} (hm : zMd σ I) (x : Int32) : z_Ct lx yX6_lines (zT yX6_lines cX6_lines 2 (Option.some FieldType.int)) ({ frames := 9, cells := 0, slots := 0, locals := 216 } : Room) g N I P J [.ref (g.1 95), .int x] (zGm σ x (fun b => sLC σ (sNW σ) b (sWD σ b)) I P J) 0 0 := by
  refine z_of (by decide) (Nat.le_of_ble_eq_true rfl) (lv0 := [(0, .ref (g.1 95)), (1, .int x)]) rfl ?_
  intro C hlx hC hE hRm
  have hC : zX C cX6_lines 2 RX6 (zT yX6_lines cX6_lines 2 (Option.some FieldType.int)) g N := hC
  refine z_aload_n (pc := 0) hC 0 dX6_lines_0 rfl rfl z_isr_r ?_
  refine z_iload_n (pc := 1) hC 1 dX6_lines_1 rfl rfl ?_
  refine z_callV (pc := 2) (st := []) hC [.int x] (kX6_hasLayout C.2.1 g N I P J hm x) rfl (z_lt hC (by decide)) rfl zkX6_hasLayout zm_4_196 ⟨rfl, rfl⟩ rfl rfl hRm ⟨Nat.le_of_ble_eq_true rfl, Nat.le_of_ble_eq_true rfl⟩ (Nat.le_of_ble_eq_true rfl) ⟨Nat.zero_le _, Nat.zero_le _⟩ dX6_lines_2 ?_
  intro v I1 P1 J1 hq
  obtain ⟨c, hv, hct, hcf, hm1, hk1⟩ := hq
  subst hv
  show zJ C g N 2 0 0 I1 P1 J1 5 [(0, .ref (g.1 95)), (1, .int x)] [.int (zB c)]
  refine z_if_eq (pc := 5) (tgt := 17) hC dX6_lines_5 (by decide) (fun h5 => ?_) (fun h5 => ?_)
  · skip
    have g5 := zB_f h5
    refine z_iconst (pc := 17) (v := 0) hC dX6_lines_17 rfl ?_
    exact z_iret (pc := 18) hC hE dX6_lines_18 ⟨Or.inl (hcf g5), hm1, hk1⟩
  · skip
    have g5 := zB_t h5
    obtain ⟨b, rfl, hb, he, hs, h3, har, hsh⟩ := hct g5
    refine z_aload_n (pc := 8) hC 0 dX6_lines_8 rfl rfl z_isr_r ?_
    refine z_gF (pc := 9) hC 6 11 (t := 105) rfl (z_lt hC (by decide)) rfl inX6 (by decide) rfl zm_4_84 rfl dX6_lines_9 ?_
    refine z_iload_n (pc := 12) hC 1 dX6_lines_12 rfl rfl ?_
    refine z_iaN (pc := 13) hC b (x := sLC σ (sNW σ) b (sWD σ b)) rfl (z_lt hC (by decide)) rfl hb (by decide) ((har b hs).2.2.2.2.2.2.1) dX6_lines_13 ?_
    refine z_goto (pc := 14) (tgt := 18) hC dX6_lines_14 (by decide) ?_
    exact z_iret (pc := 18) hC hE dX6_lines_18 ⟨Or.inr ⟨b, rfl, hb, he, hs, rfl, h3⟩, hm1, hk1⟩
set_option maxHeartbeats 4000000 in
set_option maxRecDepth 100000 in
theorem kX6_lineOf (lx : Launch) (g : zG) (N : Nat) (I : Nat → Nat → Int32) (P : Nat → Nat → Option Nat) (J : Nat → Nat → Int64) {σ : zS} (hm : zMd σ I) (x : Int32) : z_Ct lx yX6_lineOf (zT yX6_lineOf cX6_lineOf 2 (Option.some FieldType.int)) ({ frames := 9, cells := 0, slots := 0, locals := 216 } : Room) g N I P J [.ref (g.1 95), .int x] (zGm σ x (fun b => nI (sLi σ b)) I P J) 0 0 := by
  refine z_of (by decide) (Nat.le_of_ble_eq_true rfl) (lv0 := [(0, .ref (g.1 95)), (1, .int x)]) rfl ?_
  intro C hlx hC hE hRm
  have hC : zX C cX6_lineOf 2 RX6 (zT yX6_lineOf cX6_lineOf 2 (Option.some FieldType.int)) g N := hC
  refine z_aload_n (pc := 0) hC 0 dX6_lineOf_0 rfl rfl z_isr_r ?_
  refine z_iload_n (pc := 1) hC 1 dX6_lineOf_1 rfl rfl ?_
  refine z_callV (pc := 2) (st := []) hC [.int x] (kX6_hasLayout C.2.1 g N I P J hm x) rfl (z_lt hC (by decide)) rfl zkX6_hasLayout zm_4_196 ⟨rfl, rfl⟩ rfl rfl hRm ⟨Nat.le_of_ble_eq_true rfl, Nat.le_of_ble_eq_true rfl⟩ (Nat.le_of_ble_eq_true rfl) ⟨Nat.zero_le _, Nat.zero_le _⟩ dX6_lineOf_2 ?_
  intro v I1 P1 J1 hq
  obtain ⟨c, hv, hct, hcf, hm1, hk1⟩ := hq
  subst hv
  show zJ C g N 2 0 0 I1 P1 J1 5 [(0, .ref (g.1 95)), (1, .int x)] [.int (zB c)]
  refine z_if_eq (pc := 5) (tgt := 17) hC dX6_lineOf_5 (by decide) (fun h5 => ?_) (fun h5 => ?_)
  · skip
    have g5 := zB_f h5
    refine z_iconst (pc := 17) (v := 0) hC dX6_lineOf_17 rfl ?_
    exact z_iret (pc := 18) hC hE dX6_lineOf_18 ⟨Or.inl (hcf g5), hm1, hk1⟩
  · skip
    have g5 := zB_t h5
    obtain ⟨b, rfl, hb, he, hs, h3, har, hsh⟩ := hct g5
    refine z_aload_n (pc := 8) hC 0 dX6_lineOf_8 rfl rfl z_isr_r ?_
    refine z_gF (pc := 9) hC 6 10 (t := 104) rfl (z_lt hC (by decide)) rfl inX6 (by decide) rfl zm_4_83 rfl dX6_lineOf_9 ?_
    refine z_iload_n (pc := 12) hC 1 dX6_lineOf_12 rfl rfl ?_
    refine z_iaN (pc := 13) hC b (x := nI (sLi σ b)) rfl (z_lt hC (by decide)) rfl hb (by decide) ((har b hs).2.2.2.2.2.2.2) dX6_lineOf_13 ?_
    refine z_goto (pc := 14) (tgt := 18) hC dX6_lineOf_14 (by decide) ?_
    exact z_iret (pc := 18) hC hE dX6_lineOf_18 ⟨Or.inr ⟨b, rfl, hb, he, hs, rfl, h3⟩, hm1, hk1⟩
end ZM23
