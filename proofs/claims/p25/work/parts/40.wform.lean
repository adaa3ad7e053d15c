section ZWM
theorem zGeo.tr {fl : List Nat} {I I1 I2 : Nat → Nat → Int32} (h1 : zGeo fl I I1) (h2 : zGeo fl I1 I2) : zGeo fl I I2 := fun q j k1 k2 k3 => (h2 q j k1 k2 k3).trans (h1 q j k1 k2 k3)
def zlaQ (σ : zS) (b : Nat) (x : Int32) (I : Nat → Nat → Int32) (P : Nat → Nat → Option Nat) (J : Nat → Nat → Int64) : Option Value → (Nat → Nat → Int32) → (Nat → Nat → Option Nat) → (Nat → Nat → Int64) → Prop := fun v I' P' J' => v = some (.int x) ∧ P' = P ∧ J' = J ∧ zGeo [14, 16, 17] I I' ∧ I' 0 17 = I 0 17
theorem zla_s {σ : zS} (hw : sWF σ) {b D j : Nat} {u : Nat → Nat} (hp : zpath σ b D u) (hj : j < D) {v : Int32} {I Ir Ix : Nat → Nat → Int32} {P P' : Nat → Nat → Option Nat} {J J' : Nat → Nat → Int64} {o : Option Value} (h : zGeo [14, 16, 17] I Ir ∧ Ir 0 17 = I 0 17) (hq : zsprQ σ (sNW σ) (u (j + 1)) (sWv σ v (u (j + 1))) Ir P J o Ix P' J') : (zGeo [14, 16, 17] I Ix ∧ Ix 0 17 = I 0 17) ∧ Ix (u j) 14 = sWv σ v (u j) := by
  obtain ⟨_, _, _, hf, hk, _⟩ := hq
  have hu := (sSh_ex hw (hp.2.2 (j + 1) (by omega)).1).1
  refine ⟨⟨fun q i h1 h2 h3 => ?_, ?_⟩, ?_⟩
  · rw [hf q i (fun z => h1 ⟨by rcases z.1 with e | e <;> rw [e] <;> simp, (sKids_lt hw z.2).2.1⟩) (fun z => h1 ⟨by rw [z.2]; simp, by omega⟩) h2 h3]
    exact h.1 q i h1 h2 h3
  · rw [hf 0 17 (fun z => absurd rfl (sKids_lt hw z.2).2.2.2.2) (by omega) (by omega) (by omega)]
    exact h.2
  · have q := zpath_kid hw hp hj
    have g := sKids_get q
    rw [(hk _ _ q).1, ← sWv_kd hw v g.2.1, g.1]
theorem zla_e {σ : zS} (hw : sWF σ) {b : Nat} (hb : b < 40) {W x : Int32} {I Ir Ix : Nat → Nat → Int32} {P P' : Nat → Nat → Option Nat} {J J' : Nat → Nat → Int64} {o : Option Value} (h : zGeo [14, 16, 17] I Ir ∧ Ir 0 17 = I 0 17) (hq : zbrkQ σ (sNW σ) b W Ir P J o Ix P' J') : zGeo [14, 16, 17] I Ix ∧ Ix 0 17 = I 0 17 := by
  obtain ⟨_, _, _, hf, _, _⟩ := hq
  refine ⟨fun q i h1 h2 h3 => ?_, ?_⟩
  · rw [hf q i (fun z => h1 ⟨by rw [z.1]; simp, (sKids_lt hw z.2).2.1⟩) (fun z => h1 ⟨by rw [z.2]; simp, by omega⟩)]
    exact h.1 q i h1 h2 h3
  · rw [hf 0 17 (fun z => absurd rfl (sKids_lt hw z.2).2.2.2.2) (by omega)]
    exact h.2
set_option maxHeartbeats 4000000 in
set_option maxRecDepth 100000 in
theorem kX2_linesVary (lx : Launch) (g : zG) (N : Nat) (I : Nat → Nat → Int32) (P : Nat → Nat → Option Nat) (J : Nat → Nat → Int64) {σ : zS} (ht : zTr σ I P) (hl : zLk σ I P) (p : Nat) (he : sEx σ p = true) : z_Ct lx yX2_linesVary (zT yX2_linesVary cX2_linesVary 1 (Option.some FieldType.boolean)) ({ frames := 2, cells := 0, slots := 0, locals := 41 } : Room) g N I P J [.ref (g.1 p)] (zMu (some (.int (zB (sVary σ p)))) I P J) 0 0 := by
  refine z_of (by decide) (Nat.le_of_ble_eq_true rfl) (lv0 := [(0, .ref (g.1 p))]) rfl ?_
  intro C hlx hC hE hRm
  have hC : zX C cX2_linesVary 1 RX2 (zT yX2_linesVary cX2_linesVary 1 (Option.some FieldType.boolean)) g N := hC
  refine z_aload_n (pc := 0) hC 0 dX2_linesVary_0 rfl rfl z_isr_r ?_
  refine z_gI (pc := 1) hC 0 4 (x := zB (sCon σ p)) (z_shb (zTr_lt ht he)) (z_ltb hC (zTr_lt ht he)) rfl inX0 (by decide) rfl zm_1_45 ((hl.1 p (zTr_lt ht he)).1) dX2_linesVary_1 ?_
  refine z_if_ne (pc := 4) (tgt := 22) hC dX2_linesVary_4 (by decide) (fun h4 => ?_) (fun h4 => ?_)
  · skip
    have g4 := zB_t h4
    refine z_aload_n (pc := 22) hC 0 dX2_linesVary_22 rfl rfl z_isr_r ?_
    refine z_cV (pc := 23) (st := []) hC [] (kX0_isColumn C.2.1 g N I P J p (zTr_lt ht he) (sSt σ p 0) (zTr_st ht he (by decide))) (z_shb (zTr_lt ht he)) (z_ltb hC (zTr_lt ht he)) rfl zkX0_isColumn zm_2_136 ⟨rfl, rfl⟩ rfl rfl hRm ⟨Nat.le_of_ble_eq_true rfl, Nat.le_of_ble_eq_true rfl⟩ (Nat.le_of_ble_eq_true rfl) ⟨Nat.zero_le _, Nat.zero_le _⟩ dX2_linesVary_23 ?_
    refine z_if_ne (pc := 26) (tgt := 48) hC dX2_linesVary_26 (by decide) (fun h26 => ?_) (fun h26 => ?_)
    · skip
      have g26 := zB_t h26
      have q26 := of_decide_eq_true g26
      refine z_iconst (pc := 48) (v := 0) hC dX2_linesVary_48 rfl ?_
      exact z_zret (pc := 49) hC hE (z_b01 (Or.inl rfl)) dX2_linesVary_49 (zMu_i (by unfold sVary; rw [if_pos g4, decide_eq_false (fun q => q.1 q26)]; rfl))
    · skip
      have g26 := zB_f h26
      have q26 := of_decide_eq_false g26
      refine z_aload_n (pc := 29) hC 0 dX2_linesVary_29 rfl rfl z_isr_r ?_
      refine z_cV (pc := 30) (st := []) hC [] (kX0_wraps C.2.1 g N I P J p (zTr_lt ht he) (sSt σ p 1) (zTr_st ht he (by decide))) (z_shb (zTr_lt ht he)) (z_ltb hC (zTr_lt ht he)) rfl zkX0_wraps zm_2_173 ⟨rfl, rfl⟩ rfl rfl hRm ⟨Nat.le_of_ble_eq_true rfl, Nat.le_of_ble_eq_true rfl⟩ (Nat.le_of_ble_eq_true rfl) ⟨Nat.zero_le _, Nat.zero_le _⟩ dX2_linesVary_30 ?_
      refine z_if_eq (pc := 33) (tgt := 48) hC dX2_linesVary_33 (by decide) (fun h33 => ?_) (fun h33 => ?_)
      · skip
        have g33 := zB_f h33
        have q33 := of_decide_eq_false g33
        refine z_iconst (pc := 48) (v := 0) hC dX2_linesVary_48 rfl ?_
        exact z_zret (pc := 49) hC hE (z_b01 (Or.inl rfl)) dX2_linesVary_49 (zMu_i (by unfold sVary; rw [if_pos g4, decide_eq_false (fun q => q33 q.2.1)]; rfl))
      · skip
        have g33 := zB_t h33
        have q33 := of_decide_eq_true g33
        refine z_aload_n (pc := 36) hC 0 dX2_linesVary_36 rfl rfl z_isr_r ?_
        refine z_gI (pc := 37) hC 0 8 (x := nI (kn σ p)) (z_shb (zTr_lt ht he)) (z_ltb hC (zTr_lt ht he)) rfl inX0 (by decide) rfl zm_1_58 ((hl.1 p (zTr_lt ht he)).2.2.1) dX2_linesVary_37 ?_
        refine z_iconst (pc := 40) (v := 1) hC dX2_linesVary_40 rfl ?_
        refine z_icmp_le (pc := 41) (tgt := 48) hC dX2_linesVary_41 (by decide) (fun h41 => ?_) (fun h41 => ?_)
        · skip
          have g41 := Int32.not_lt.mpr h41
          refine z_iconst (pc := 48) (v := 0) hC dX2_linesVary_48 rfl ?_
          exact z_zret (pc := 49) hC hE (z_b01 (Or.inl rfl)) dX2_linesVary_49 (zMu_i (by unfold sVary; rw [if_pos g4, decide_eq_false (fun q => Int32.not_lt.mpr h41 ((zm_one (kn_le ht.1 p)).mpr q.2.2))]; rfl))
        · skip
          have g41 := Int32.not_le.mp h41
          refine z_iconst (pc := 44) (v := 1) hC dX2_linesVary_44 rfl ?_
          refine z_goto (pc := 45) (tgt := 49) hC dX2_linesVary_45 (by decide) ?_
          exact z_zret (pc := 49) hC hE (z_b01 (Or.inr rfl)) dX2_linesVary_49 (zMu_i (by unfold sVary; rw [if_pos g4, decide_eq_true ⟨q26, q33, (zm_one (kn_le ht.1 p)).mp g41⟩]; rfl))
  · skip
    have g4 := zB_f h4
    refine z_aload_n (pc := 7) hC 0 dX2_linesVary_7 rfl rfl z_isr_r ?_
    refine z_bipush (pc := 8) (v := 19) hC dX2_linesVary_8 rfl ?_
    refine z_cV (pc := 10) (st := []) hC [.int 19] (kX0_of C.2.1 g N I P J p 19 (zTr_lt ht he) (by decide) 19 rfl (sSt σ p 19) (zTr_st ht he (by decide))) (z_shb (zTr_lt ht he)) (z_ltb hC (zTr_lt ht he)) rfl zkX0_of zm_2_125 ⟨rfl, rfl⟩ rfl rfl hRm ⟨Nat.le_of_ble_eq_true rfl, Nat.le_of_ble_eq_true rfl⟩ (Nat.le_of_ble_eq_true rfl) ⟨Nat.zero_le _, Nat.zero_le _⟩ dX2_linesVary_10 ?_
    refine z_if_le (pc := 13) (tgt := 20) hC dX2_linesVary_13 (by decide) (fun h13 => ?_) (fun h13 => ?_)
    · skip
      have g13 := Int32.not_lt.mpr h13
      refine z_iconst (pc := 20) (v := 0) hC dX2_linesVary_20 rfl ?_
      exact z_zret (pc := 21) hC hE (z_b01 (Or.inl rfl)) dX2_linesVary_21 (zMu_i (by unfold sVary; rw [if_neg (by rw [g4]; decide), decide_eq_false (Int32.not_lt.mpr h13)]; rfl))
    · skip
      have g13 := Int32.not_le.mp h13
      refine z_iconst (pc := 16) (v := 1) hC dX2_linesVary_16 rfl ?_
      refine z_goto (pc := 17) (tgt := 21) hC dX2_linesVary_17 (by decide) ?_
      exact z_zret (pc := 21) hC hE (z_b01 (Or.inr rfl)) dX2_linesVary_21 (zMu_i (by unfold sVary; rw [if_neg (by rw [g4]; decide), decide_eq_true g13]; rfl))
set_option maxHeartbeats 4000000 in
set_option maxRecDepth 100000 in
theorem kX2_linesAt (lx : Launch) (g : zG) (N : Nat) (I : Nat → Nat → Int32) (P : Nat → Nat → Option Nat) (J : Nat → Nat → Int64) {σ : zS} (ht : zTr σ I P) (hl : zLk σ I P) (b : Nat) (he : sEx σ b = true) (hs : sSh σ b = true) (hb : b < 40) (D : Nat) (u : Nat → Nat) (hp : zpath σ b D u) (hh : ∀ j, j < D → P (u (j + 1)) 9 = some (u j)) (hnw : ∀ c, sSh σ c = true → I c 10 = sNW σ c) (hnc : sCon σ b = true → ¬ sSt σ b 0 = 1) (v : Int32) : z_Ct lx yX2_linesAt (zT yX2_linesAt cX2_linesAt 4 (Option.some FieldType.int)) ({ frames := 5, cells := 0, slots := 0, locals := 138 } : Room) g N I P J [.ref (g.1 82), .ref (g.1 b), .int v] (zlaQ σ b (sLC σ (sNW σ) b (sWv σ v b)) I P J) 0 0 := by
  refine z_of (by decide) (Nat.le_of_ble_eq_true rfl) (lv0 := [(0, .ref (g.1 82)), (1, .ref (g.1 b)), (2, .int v)]) rfl ?_
  intro C hlx hC hE hRm
  have hC : zX C cX2_linesAt 4 RX2 (zT yX2_linesAt cX2_linesAt 4 (Option.some FieldType.int)) g N := hC
  refine z_aload_n (pc := 0) hC 0 dX2_linesAt_0 rfl rfl z_isr_r ?_
  refine z_gF (pc := 1) hC 2 0 (t := 81) rfl (z_lt hC (by decide)) rfl inX2 (by decide) rfl zm_1_194 rfl dX2_linesAt_1 ?_
  refine z_gF (pc := 4) hC 4 1 (t := 0) rfl (z_lt hC (by decide)) rfl inX4 (by decide) rfl zm_1_128 rfl dX2_linesAt_4 ?_
  refine z_iload_n (pc := 7) hC 2 dX2_linesAt_7 rfl rfl ?_
  refine z_pI (pc := 8) hC 0 14 (z_shb (by decide)) (z_ltb hC (by decide)) rfl inX0 tyX0_ok nmX0 (by decide) rfl zm_1_72 rfl rfl rfl dX2_linesAt_8 ?_
  refine z_aload_n (pc := 11) hC 0 dX2_linesAt_11 rfl rfl z_isr_r ?_
  refine z_gF (pc := 12) hC 2 0 (t := 81) rfl (z_lt hC (by decide)) rfl inX2 (by decide) rfl zm_1_194 rfl dX2_linesAt_12 ?_
  refine z_gF (pc := 15) hC 4 1 (t := 0) rfl (z_lt hC (by decide)) rfl inX4 (by decide) rfl zm_1_128 rfl dX2_linesAt_15 ?_
  refine z_astore_n (pc := 18) (lv' := [(3, .ref (g.1 0)), (0, .ref (g.1 82)), (1, .ref (g.1 b)), (2, .int v)]) hC dX2_linesAt_18 rfl (by decide) z_isr_r rfl ?_
  have L19 : ∀ (zf : Nat) (k : Nat) (Ir : Nat → Nat → Int32) (hk : k ≤ D) (hG : zGeo [14, 16, 17] I Ir ∧ Ir 0 17 = I 0 17) (hW : Ir (u k) 14 = sWv σ v (u k)), k < zf → zJ C g N 4 0 0 Ir P J 19 [(3, .ref (g.1 (u k))), (0, .ref (g.1 82)), (1, .ref (g.1 b)), (2, .int v)] [] := by
    intro zf
    induction zf with
    | zero =>
      intro k Ir hk hG hW hn2
      exact absurd hn2 (Nat.not_lt_zero _)
    | succ zf ih =>
      intro k Ir hk hG hW hn2
      have hly := hG.1.lay (by decide)
      have htr := ht.lay hly
      have hlr := hl.lay hly
      refine z_aload_n (pc := 19) hC 0 dX2_linesAt_19 rfl rfl z_isr_r ?_
      refine z_ifnullR (pc := 20) hC dX2_linesAt_20 ?_
      refine z_aload_n (pc := 23) hC 0 dX2_linesAt_23 rfl rfl z_isr_r ?_
      refine z_aload_n (pc := 24) hC 2 dX2_linesAt_24 rfl rfl z_isr_r ?_
      refine z_acmp_eq (pc := 25) (tgt := 41) (x := (some (u k))) (y := (some b)) hC dX2_linesAt_25 (by decide) (fun b q => by cases q; exact z_ltb hC (sSh_ex ht.1 (hp.2.2 k hk).1).1) (fun b q => by cases q; exact z_ltb hC hb) (fun h25 => ?_) (fun h25 => ?_)
      · skip
        have ek : k = 0 := by
          rcases Nat.eq_zero_or_pos k with e | e
          · exact e
          · exact absurd (hp.1.trans (Option.some.inj h25).symm) (zpath_ne ht.1 hp e hk)
        subst ek
        rw [hp.1] at hW
        refine z_aload_n (pc := 41) hC 2 dX2_linesAt_41 rfl rfl z_isr_r ?_
        refine z_gI (pc := 42) hC 0 4 (x := zB (sCon σ b)) (z_shb hb) (z_ltb hC hb) rfl inX0 (by decide) rfl zm_1_45 ((hlr.1 b hb).1) dX2_linesAt_42 ?_
        refine z_if_ne (pc := 45) (tgt := 53) hC dX2_linesAt_45 (by decide) (fun h45 => ?_) (fun h45 => ?_)
        · skip
          have g45 := zB_t h45
          refine z_aload_n (pc := 53) hC 2 dX2_linesAt_53 rfl rfl z_isr_r ?_
          refine z_callS (pc := 54) (st := []) hC [.ref (g.1 b)] ((kX2_breakLines C.2.1 g N Ir P J htr hlr b he (sWv σ v b) hW (sNW σ) (fun c hc => (hG.1.oth (sKids_lt ht.1 hc).2.1 (by decide)).trans (hnw c (sKids_sh ht.1 hs hc))) (hnc g45))) zkX2_breakLines zm_2_166 ⟨rfl, rfl⟩ rfl rfl hRm ⟨Nat.le_of_ble_eq_true rfl, Nat.le_of_ble_eq_true rfl⟩ (Nat.le_of_ble_eq_true rfl) ⟨Nat.zero_le _, Nat.zero_le _⟩ dX2_linesAt_54 ?_
          intro o Iy P2 J2 hq
          have hx := zla_e ht.1 hb (x := 0) hG hq
          obtain ⟨hv, hP2, hJ2, _, _, hc⟩ := hq
          subst hv
          rw [hP2, hJ2]
          show zJ C g N 4 0 0 Iy P J 57 [(3, .ref (g.1 (u 0))), (0, .ref (g.1 82)), (1, .ref (g.1 b)), (2, .int v)] []
          refine z_aload_n (pc := 57) hC 2 dX2_linesAt_57 rfl rfl z_isr_r ?_
          refine z_gI (pc := 58) hC 0 16 (x := nI (sLCn σ (sNW σ) b (sWv σ v b))) (z_shb hb) (z_ltb hC hb) rfl inX0 (by decide) rfl zm_1_78 hc dX2_linesAt_58 ?_
          exact z_iret (pc := 61) hC hE dX2_linesAt_61 ⟨by unfold sLC; rw [if_pos g45], rfl, rfl, hx⟩
        · skip
          have g45 := zB_f h45
          refine z_aload_n (pc := 48) hC 2 dX2_linesAt_48 rfl rfl z_isr_r ?_
          refine z_cV (pc := 49) (st := []) hC [] (kSX0_textLines C.2.1 g N Ir P J htr b he (sWv σ v b) hW) (z_shb hb) (z_ltb hC hb) rfl zkX0_textLines zm_2_228 ⟨rfl, rfl⟩ rfl rfl hRm ⟨Nat.le_of_ble_eq_true rfl, Nat.le_of_ble_eq_true rfl⟩ (Nat.le_of_ble_eq_true rfl) ⟨Nat.zero_le _, Nat.zero_le _⟩ dX2_linesAt_49 ?_
          exact z_iret (pc := 52) hC hE dX2_linesAt_52 ⟨by unfold sLC; rw [if_neg (by rw [g45]; decide)], rfl, rfl, hG⟩
      · skip
        obtain ⟨j, rfl⟩ : ∃ j, k = j + 1 := by
          cases k with
          | zero => exact absurd (congrArg some hp.1) h25
          | succ j => exact ⟨j, rfl⟩
        have huj := (sSh_ex ht.1 (hp.2.2 (j + 1) hk).1).1
        refine z_aload_n (pc := 28) hC 1 dX2_linesAt_28 rfl rfl z_isr_r ?_
        refine z_aload_n (pc := 29) hC 0 dX2_linesAt_29 rfl rfl z_isr_r ?_
        refine z_callV (pc := 30) (st := []) hC [.ref (g.1 (u (j + 1)))] ((kX2_spreadWidths C.2.1 g N Ir P J htr hlr (u (j + 1)) (sSh_ex ht.1 (hp.2.2 (j + 1) hk).1).2 (sWv σ v (u (j + 1))) hW (sNW σ) (fun c hc => (hG.1.oth (sKids_lt ht.1 hc).2.1 (by decide)).trans (hnw c (sKids_sh ht.1 (hp.2.2 (j + 1) hk).1 hc))) (sNW_bd ht.1 _))) rfl (z_lt hC (by decide)) rfl zkX2_spreadWidths zm_2_147 ⟨rfl, rfl⟩ rfl rfl hRm ⟨Nat.le_of_ble_eq_true rfl, Nat.le_of_ble_eq_true rfl⟩ (Nat.le_of_ble_eq_true rfl) ⟨Nat.zero_le _, Nat.zero_le _⟩ dX2_linesAt_30 ?_
        intro o Ix P2 J2 hq
        have hx := zla_s ht.1 hp (by omega) hG hq
        obtain ⟨hv, hP2, hJ2, _⟩ := hq
        subst hv
        rw [hP2, hJ2]
        show zJ C g N 4 0 0 Ix P J 33 [(3, .ref (g.1 (u (j + 1)))), (0, .ref (g.1 82)), (1, .ref (g.1 b)), (2, .int v)] []
        refine z_aload_n (pc := 33) hC 0 dX2_linesAt_33 rfl rfl z_isr_r ?_
        refine z_gP (pc := 34) hC 0 9 (v := .ref (g.1 (u j))) (z_shb huj) (z_ltb hC huj) rfl inX0 (by decide) rfl zm_1_61 (by rw [hh j (by omega)]; rfl) dX2_linesAt_34 ?_
        refine z_astore_n (pc := 37) (lv' := [(3, .ref (g.1 (u j))), (0, .ref (g.1 82)), (1, .ref (g.1 b)), (2, .int v)]) hC dX2_linesAt_37 rfl (by decide) z_isr_r rfl ?_
        refine z_goto (pc := 38) (tgt := 19) hC dX2_linesAt_38 (by decide) ?_
        exact ih j Ix (by omega) hx.1 hx.2 (by omega)
  have K := L19 (D + 1) D (z_u I 0 14 v) (Nat.le_refl D) ⟨zGeo.rf.u (by decide) (by simp) v, z_u_b _ _ (by decide)⟩ (by rw [hp.2.1]; exact z_u_s _ _ _ _) (by omega)
  rw [hp.2.1] at K
  exact K
theorem zc_gt {v : Nat} (h : 2000 < nI v) (hv : v < 2 ^ 31) : 2001 ≤ v := by
  have q := (zi_lt _ _).mp h
  rw [nI_toInt hv] at q
  have e : (2000 : Int32).toInt = 2000 := rfl
  omega
theorem zc_le {v : Nat} (h : ¬ 2000 < nI v) (hv : v < 2 ^ 31) : v ≤ 2000 := by
  have q : ¬ (2000 : Int32).toInt < (nI v).toInt := fun z => h ((zi_lt _ _).mpr z)
  rw [nI_toInt hv] at q
  have e : (2000 : Int32).toInt = 2000 := rfl
  omega
theorem sVary_col {σ : zS} {b : Nat} (h : sVary σ b = true) (hc : sCon σ b = true) : ¬ sSt σ b 0 = 1 := by
  unfold sVary at h
  rw [if_pos hc] at h
  exact (of_decide_eq_true h).1
def znfQ (σ : zS) (b : Nat) (n : Int32) (I : Nat → Nat → Int32) (P : Nat → Nat → Option Nat) (J : Nat → Nat → Int64) : Option Value → (Nat → Nat → Int32) → (Nat → Nat → Option Nat) → (Nat → Nat → Int64) → Prop := fun v I' P' J' => v = some (.int (sWf σ b n)) ∧ J' = J ∧ (zGeo [14, 16, 17] I I' ∧ I' 0 17 = I 0 17) ∧ ∀ q j, ¬ (j = 9 ∧ q < 40) → P' q j = P q j
set_option maxHeartbeats 4000000 in
set_option maxRecDepth 100000 in
theorem kX2_narrowestFor (lx : Launch) (g : zG) (N : Nat) (I : Nat → Nat → Int32) (P : Nat → Nat → Option Nat) (J : Nat → Nat → Int64) {σ : zS} (ht : zTr σ I P) (ha : zAr σ I P) (b : Nat) (he : sEx σ b = true) (hs : sSh σ b = true) (hb : b < 40) (n : Int32) : z_Ct lx yX2_narrowestFor (zT yX2_narrowestFor cX2_narrowestFor 4 (Option.some FieldType.int)) ({ frames := 6, cells := 0, slots := 0, locals := 161 } : Room) g N I P J [.ref (g.1 82), .ref (g.1 b), .int n] (znfQ σ b n I P J) 0 0 := by
  refine z_of (by decide) (Nat.le_of_ble_eq_true rfl) (lv0 := [(0, .ref (g.1 82)), (1, .ref (g.1 b)), (2, .int n)]) rfl ?_
  intro C hlx hC hE hRm
  have hC : zX C cX2_narrowestFor 4 RX2 (zT yX2_narrowestFor cX2_narrowestFor 4 (Option.some FieldType.int)) g N := hC
  refine z_aload_n (pc := 0) hC 1 dX2_narrowestFor_0 rfl rfl z_isr_r ?_
  refine z_cS (pc := 1) (st := []) hC [.ref (g.1 b)] (kX2_linesVary C.2.1 g N I P J ht ha.1 b he) zkX2_linesVary zm_3_130 ⟨rfl, rfl⟩ rfl rfl hRm ⟨Nat.le_of_ble_eq_true rfl, Nat.le_of_ble_eq_true rfl⟩ (Nat.le_of_ble_eq_true rfl) ⟨Nat.zero_le _, Nat.zero_le _⟩ dX2_narrowestFor_1 ?_
  refine z_if_ne (pc := 4) (tgt := 21) hC dX2_narrowestFor_4 (by decide) (fun h4 => ?_) (fun h4 => ?_)
  · skip
    have g4 := zB_t h4
    refine z_iload_n (pc := 21) hC 2 dX2_narrowestFor_21 rfl rfl ?_
    refine z_iconst (pc := 22) (v := 1) hC dX2_narrowestFor_22 rfl ?_
    refine z_icmp_ge (pc := 23) (tgt := 28) hC dX2_narrowestFor_23 (by decide) (fun h23 => ?_) (fun h23 => ?_)
    · skip
      have g23 := Int32.not_lt.mpr h23
      obtain ⟨D, u, hp⟩ := zpath_ex ht.1 (b + 1) b (Nat.lt_succ_self _) hs
      refine z_aload_n (pc := 28) hC 1 dX2_narrowestFor_28 rfl rfl z_isr_r ?_
      refine z_astore_n (pc := 29) (lv' := [(3, .ref (g.1 b)), (0, .ref (g.1 82)), (1, .ref (g.1 b)), (2, .int n)]) hC dX2_narrowestFor_29 rfl (by decide) z_isr_r rfl ?_
      have L30 : ∀ (zf : Nat) (k : Nat) (Pr : Nat → Nat → Option Nat) (hk : k ≤ D) (hh : zheir u k P Pr), D - k < zf → zJ C g N 4 0 0 I Pr J 30 [(3, .ref (g.1 (u k))), (0, .ref (g.1 82)), (1, .ref (g.1 b)), (2, .int n)] [] := by
        intro zf
        induction zf with
        | zero =>
          intro k Pr hk hh hn2
          exact absurd hn2 (Nat.not_lt_zero _)
        | succ zf ih =>
          intro k Pr hk hh hn2
          have huk := (sSh_ex ht.1 (hp.2.2 k hk).1).1
          refine z_aload_n (pc := 30) hC 0 dX2_narrowestFor_30 rfl rfl z_isr_r ?_
          refine z_ifnullR (pc := 31) hC dX2_narrowestFor_31 ?_
          refine z_aload_n (pc := 34) hC 0 dX2_narrowestFor_34 rfl rfl z_isr_r ?_
          refine z_gP (pc := 35) hC 0 3 (v := va_rf (Option.map g.1 (sPp σ (u k)))) (z_shb huk) (z_ltb hC huk) rfl inX0 (by decide) rfl zm_1_44 (by rw [hh.1 (u k) 3 (by omega), zPp_S ht (hp.2.2 k hk).1]) dX2_narrowestFor_35 ?_
          refine z_ifnull (pc := 38) (tgt := 57) hC dX2_narrowestFor_38 (by decide) (fun h38 => ?_) (fun a38 h38 => ?_)
          · skip
            have ek : k = D := by
              rcases Nat.lt_or_ge k D with q | q
              · exact absurd h38 (by unfold sPp; rw [if_neg ((hp.2.2 k hk).2 q).1]; exact fun z => by cases z)
              · omega
            subst ek
            have htd := zTr_P ht hh.1
            have hld := zLk_P ha.1 hh.1
            refine z_iconst (pc := 57) (v := 0) hC dX2_narrowestFor_57 rfl ?_
            refine z_istore_n (pc := 58) (lv' := [(3, .int 0), (0, .ref (g.1 82)), (1, .ref (g.1 b)), (2, .int n)]) hC dX2_narrowestFor_58 rfl (by decide) rfl ?_
            have L59 : ∀ (zf : Nat) (v : Nat) (Ir : Nat → Nat → Int32) (hv : v ≤ 2001) (hG : zGeo [14, 16, 17] I Ir ∧ Ir 0 17 = I 0 17) (hz : sWf σ b n = zfind (fun v => decide (sLC σ (sNW σ) b (sWv σ (nI v) b) ≤ n)) (2001 - v) v), 2001 - v < zf → zJ C g N 4 0 0 Ir Pr J 59 [(3, .int (nI v)), (0, .ref (g.1 82)), (1, .ref (g.1 b)), (2, .int n)] [] := by
              intro zf
              induction zf with
              | zero =>
                intro v Ir hv hG hz hn2
                exact absurd hn2 (Nat.not_lt_zero _)
              | succ zf ih =>
                intro v Ir hv hG hz hn2
                refine z_iload_n (pc := 59) hC 0 dX2_narrowestFor_59 rfl rfl ?_
                refine z_sipush (pc := 60) (v := 2000) hC dX2_narrowestFor_60 rfl ?_
                refine z_icmp_gt (pc := 63) (tgt := 84) hC dX2_narrowestFor_63 (by decide) (fun h63 => ?_) (fun h63 => ?_)
                · skip
                  have g63 := Int32.not_le.mpr h63
                  have ev : 2001 ≤ v := zc_gt h63 (by omega)
                  refine z_iconst (pc := 84) (v := (-1)) hC dX2_narrowestFor_84 rfl ?_
                  exact z_iret (pc := 85) hC hE dX2_narrowestFor_85 ⟨by rw [hz, show 2001 - v = 0 by omega]; rfl, rfl, hG, hh.1⟩
                · skip
                  have g63 := Int32.not_lt.mp h63
                  have ev : v ≤ 2000 := zc_le h63 (by omega)
                  refine z_aload_n (pc := 66) hC 1 dX2_narrowestFor_66 rfl rfl z_isr_r ?_
                  refine z_aload_n (pc := 67) hC 2 dX2_narrowestFor_67 rfl rfl z_isr_r ?_
                  refine z_iload_n (pc := 68) hC 0 dX2_narrowestFor_68 rfl rfl ?_
                  refine z_callV (pc := 69) (st := []) hC [.ref (g.1 b), .int (nI v)] ((kX2_linesAt C.2.1 g N Ir Pr J (htd.lay (hG.1.lay (by decide))) (hld.lay (hG.1.lay (by decide))) b he hs hb _ u hp hh.2 (fun c hc => (hG.1.oth (sSh_ex ht.1 hc).1 (by decide)).trans (ha.2 c hc).1) (sVary_col g4) (nI v))) rfl (z_lt hC (by decide)) rfl zkX2_linesAt zm_3_133 ⟨rfl, rfl⟩ rfl rfl hRm ⟨Nat.le_of_ble_eq_true rfl, Nat.le_of_ble_eq_true rfl⟩ (Nat.le_of_ble_eq_true rfl) ⟨Nat.zero_le _, Nat.zero_le _⟩ dX2_narrowestFor_69 ?_
                  intro o Ix P2 J2 hq
                  obtain ⟨hv, hP2, hJ2, hG2⟩ := hq
                  subst hv
                  rw [hP2, hJ2]
                  show zJ C g N 4 0 0 Ix Pr J 72 [(3, .int (nI v)), (0, .ref (g.1 82)), (1, .ref (g.1 b)), (2, .int n)] [.int (sLC σ (sNW σ) b (sWv σ (nI v) b))]
                  refine z_iload_n (pc := 72) hC 3 dX2_narrowestFor_72 rfl rfl ?_
                  refine z_icmp_gt (pc := 73) (tgt := 78) hC dX2_narrowestFor_73 (by decide) (fun h73 => ?_) (fun h73 => ?_)
                  · skip
                    have g73 := Int32.not_le.mpr h73
                    refine z_iinc (pc := 78) (v := nI (v + 1)) (lv' := [(3, .int (nI (v + 1))), (0, .ref (g.1 82)), (1, .ref (g.1 b)), (2, .int n)]) hC 0 dX2_narrowestFor_78 rfl (nI_1 v) (by decide) rfl ?_
                    refine z_goto (pc := 81) (tgt := 59) hC dX2_narrowestFor_81 (by decide) ?_
                    exact ih (v + 1) Ix (by omega) ⟨hG.1.tr hG2.1, hG2.2.trans hG.2⟩ (by rw [hz, show 2001 - v = (2001 - (v + 1)) + 1 by omega]; show (if (fun v => decide (sLC σ (sNW σ) b (sWv σ (nI v) b) ≤ n)) v = true then _ else _) = _; rw [if_neg (by rw [show (fun v => decide (sLC σ (sNW σ) b (sWv σ (nI v) b) ≤ n)) v = false from decide_eq_false (Int32.not_le.mpr h73)]; decide)]) (by omega)
                  · skip
                    have g73 := Int32.not_lt.mp h73
                    refine z_iload_n (pc := 76) hC 0 dX2_narrowestFor_76 rfl rfl ?_
                    exact z_iret (pc := 77) hC hE dX2_narrowestFor_77 ⟨by rw [hz, show 2001 - v = (2001 - (v + 1)) + 1 by omega]; show _ = some (Value.int (if (fun v => decide (sLC σ (sNW σ) b (sWv σ (nI v) b) ≤ n)) v = true then _ else _)); rw [if_pos (decide_eq_true (Int32.not_lt.mp h73))], rfl, ⟨hG.1.tr hG2.1, hG2.2.trans hG.2⟩, hh.1⟩
            exact L59 2002 0 I (by decide) ⟨zGeo.rf, rfl⟩ rfl (by decide)
          · skip
            have hkD : k < D := by
              rcases Nat.lt_or_ge k D with q | q
              · exact q
              · exact absurd h38 (by rw [show k = D by omega, hp.2.1]; exact fun z => by cases z)
            have hpk : Pr (u k) 3 = some (u (k + 1)) := by
              rw [hh.1 (u k) 3 (by omega), zPp_S ht (hp.2.2 k hk).1, ((hp.2.2 k hk).2 hkD).2]
              unfold sPp
              rw [if_neg ((hp.2.2 k hk).2 hkD).1]
            have huk1 := (sSh_ex ht.1 (hp.2.2 (k + 1) (by omega)).1).1
            refine z_aload_n (pc := 41) hC 0 dX2_narrowestFor_41 rfl rfl z_isr_r ?_
            refine z_gP (pc := 42) hC 0 3 (v := .ref (g.1 (u (k + 1)))) (z_shb huk) (z_ltb hC huk) rfl inX0 (by decide) rfl zm_1_44 (by rw [hpk]; rfl) dX2_narrowestFor_42 ?_
            refine z_aload_n (pc := 45) hC 0 dX2_narrowestFor_45 rfl rfl z_isr_r ?_
            refine z_pP (pc := 46) hC 0 9 (r := (some (u k))) (z_shb huk1) (z_ltb hC huk1) rfl inX0 tyX0_ok nmX0 (by decide) rfl zm_1_61 rfl rfl rfl dX2_narrowestFor_46 ?_
            refine z_aload_n (pc := 49) hC 0 dX2_narrowestFor_49 rfl rfl z_isr_r ?_
            refine z_gP (pc := 50) hC 0 3 (v := .ref (g.1 (u (k + 1)))) (z_shb huk) (z_ltb hC huk) rfl inX0 (by decide) rfl zm_1_44 (by rw [z_u_b _ _ (by decide), hpk]; rfl) dX2_narrowestFor_50 ?_
            refine z_astore_n (pc := 53) (lv' := [(3, .ref (g.1 (u (k + 1)))), (0, .ref (g.1 82)), (1, .ref (g.1 b)), (2, .int n)]) hC dX2_narrowestFor_53 rfl (by decide) z_isr_r rfl ?_
            refine z_goto (pc := 54) (tgt := 30) hC dX2_narrowestFor_54 (by decide) ?_
            exact ih (k + 1) _ (by omega) (zheir_s ht.1 hp hkD hh) (by omega)
      have K := L30 (D + 1) 0 P (Nat.zero_le _) ⟨fun _ _ _ => rfl, fun j hj => absurd hj (Nat.not_lt_zero _)⟩ (by omega)
      rw [hp.1] at K
      exact K
    · skip
      have g23 := Int32.not_le.mp h23
      refine z_iconst (pc := 26) (v := (-1)) hC dX2_narrowestFor_26 rfl ?_
      exact z_iret (pc := 27) hC hE dX2_narrowestFor_27 ⟨by rw [sWf_n ht.1 he g4 g23], rfl, ⟨zGeo.rf, rfl⟩, fun _ _ _ => rfl⟩
  · skip
    have g4 := zB_f h4
    refine z_aload_n (pc := 7) hC 1 dX2_narrowestFor_7 rfl rfl z_isr_r ?_
    refine z_gI (pc := 8) hC 0 16 (x := sLC σ (sNW σ) b (sWD σ b)) (z_shb hb) (z_ltb hC hb) rfl inX0 (by decide) rfl zm_1_78 (ha.2 b hs).2.2.2.2.2.2.1 dX2_narrowestFor_8 ?_
    refine z_iload_n (pc := 11) hC 2 dX2_narrowestFor_11 rfl rfl ?_
    refine z_icmp_gt (pc := 12) (tgt := 19) hC dX2_narrowestFor_12 (by decide) (fun h12 => ?_) (fun h12 => ?_)
    · skip
      have g12 := Int32.not_le.mpr h12
      refine z_iconst (pc := 19) (v := (-1)) hC dX2_narrowestFor_19 rfl ?_
      exact z_iret (pc := 20) hC hE dX2_narrowestFor_20 ⟨by rw [sWf_c ht.1 he g4, if_neg (Int32.not_le.mpr h12)], rfl, ⟨zGeo.rf, rfl⟩, fun _ _ _ => rfl⟩
    · skip
      have g12 := Int32.not_lt.mp h12
      refine z_iconst (pc := 15) (v := 0) hC dX2_narrowestFor_15 rfl ?_
      refine z_goto (pc := 16) (tgt := 20) hC dX2_narrowestFor_16 (by decide) ?_
      exact z_iret (pc := 20) hC hE dX2_narrowestFor_20 ⟨by rw [sWf_c ht.1 he g4, if_pos (Int32.not_lt.mp h12)], rfl, ⟨zGeo.rf, rfl⟩, fun _ _ _ => rfl⟩
end ZWM
