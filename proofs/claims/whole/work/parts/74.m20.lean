section ZM20
/-- what a container's places leave -/
def zpk (σ : zS) (p : Nat) (I : Nat → Nat → Int32) (J : Nat → Nat → Int64) (I' : Nat → Nat → Int32) (J' : Nat → Nat → Int64) : Prop := (∀ q j, q ≠ 106 → q ≠ 108 → ¬ (q = 102 ∧ ∃ c, c ∈ sKids σ p ∧ j = 2 * c + 1) → ¬ (q = 103 ∧ ∃ c, c ∈ sKids σ p ∧ (j = 2 * c ∨ j = 2 * c + 1)) → I' q j = I q j) ∧ (∀ q j, q ≠ 107 → J' q j = J q j) ∧ ∀ i, i < kn σ p → I' 102 (2 * kd σ p i + 1) = sHT σ (kd σ p i) ∧ I' 103 (2 * kd σ p i + 0) = sX σ (kd σ p i) ∧ I' 103 (2 * kd σ p i + 1) = sY σ (kd σ p i)
/-- the first k kids of a column are aligned -/
def zac (σ : zS) (p k : Nat) (I Ik : Nat → Nat → Int32) : Prop := (∀ q j, ¬ (q = 103 ∧ ∃ c, c ∈ sKids σ p ∧ j = 2 * c + 0) → Ik q j = I q j) ∧ ∀ i, i < k → Ik 103 (2 * kd σ p i + 0) = sX σ p + sSt σ p 5 + sAcr σ (kd σ p i) (sWD σ (kd σ p i)) (sIn (sWD σ p) (sSt σ p 5))
theorem zac_0 {σ : zS} {p : Nat} {I : Nat → Nat → Int32} : zac σ p 0 I I := ⟨fun _ _ _ => rfl, fun i hi => absurd hi (Nat.not_lt_zero _)⟩
theorem zac_s {σ : zS} {p k : Nat} (hk : k < kn σ p) {I Ik : Nat → Nat → Int32} (h : zac σ p k I Ik) : zac σ p (k + 1) I (z_u Ik 103 (2 * kd σ p k + 0) (sX σ p + sSt σ p 5 + sAcr σ (kd σ p k) (sWD σ (kd σ p k)) (sIn (sWD σ p) (sSt σ p 5)))) := by
  refine ⟨fun q j hq => ?_, fun i hi => ?_⟩
  · rw [z_u_r2 _ (fun y => hq ⟨y.1, _, kd_mem hk, y.2⟩)]
    exact h.1 q j hq
  · by_cases e : i = k
    · rw [e, z_u_s]
    · have ne : kd σ p i ≠ kd σ p k := fun y => e (kd_inj (by omega) hk y)
      rw [z_u_b _ _ (by omega)]
      exact h.2 i (by omega)
theorem zpk_col {σ : zS} (hw : sWF σ) {p : Nat} (hcol : sSt σ p 0 = 1) {I I1 I2 I4 : Nat → Nat → Int32} {J J1 : Nat → Nat → Int64} (f1 : ∀ q j, q ≠ 106 → q ≠ 108 → ¬ (q = 102 ∧ ∃ i, 0 ≤ i ∧ i < kn σ p ∧ j = 2 * kd σ p i + 1) → I1 q j = I q j) (fJ : ∀ q j, q ≠ 107 → J1 q j = J q j) (hs : ∀ i, i < kn σ p → I1 102 (2 * kd σ p i + 1) = sHT σ (kd σ p i)) (hj : zjs σ p 1 0 (kn σ p - 0) (fun i => sY σ p + sSt σ p 5 + sAlo σ p (sHT σ) (sIn (sHT σ p) (sSt σ p 5)) 0 (kn σ p) i) I1 I2) (ha : zac σ p (kn σ p) I2 I4) : zpk σ p I J I4 J1 := by
  refine ⟨fun q j k1 k2 k3 k4 => ?_, fJ, fun i hi => ⟨?_, ?_, ?_⟩⟩
  · rw [ha.1 q j (fun y => k4 ⟨y.1, by obtain ⟨_, c, y1, y2⟩ := y; exact ⟨c, y1, Or.inl y2⟩⟩), hj.1 q j (fun y => k4 ⟨y.1, by obtain ⟨_, i, y1, y2, y3⟩ := y; exact ⟨kd σ p i, kd_mem (by omega), Or.inr y3⟩⟩)]
    exact f1 q j k1 k2 (fun y => k3 ⟨y.1, by obtain ⟨_, i, y1, y2, y3⟩ := y; exact ⟨kd σ p i, kd_mem y2, y3⟩⟩)
  · rw [ha.1 102 _ (fun y => absurd y.1 (by decide)), hj.1 102 _ (fun y => absurd y.1 (by decide))]
    exact hs i hi
  · rw [ha.2 i hi, sX_kd hw hi]
    unfold sKX
    rw [if_pos hcol]
  · rw [ha.1 103 _ (fun y => by obtain ⟨_, c, y1, y2⟩ := y; omega), hj.2 i (Nat.zero_le _) (by omega), sY_kd hw hi]
    unfold sKY
    rw [if_pos hcol]
set_option maxHeartbeats 4000000 in
set_option maxRecDepth 100000 in
theorem kX6_placeColumn (lx : Launch) (g : zG) (N : Nat) (I : Nat → Nat → Int32) (P : Nat → Nat → Option Nat) (J : Nat → Nat → Int64) {σ : zS} (hm : zMd σ I) (p : Nat) (he : sEx σ p = true) (hk : zKq σ p I) (hs : sSh σ p = true) (hW : I 102 (2 * p + 0) = sWD σ p) (hH : I 102 (2 * p + 1) = sHT σ p) (hX : I 103 (2 * p + 0) = sX σ p) (hY : I 103 (2 * p + 1) = sY σ p) (hkw : ∀ k, k ∈ sKids σ p → I 102 (2 * k + 0) = sWD σ k) (hkh : ∀ k, k ∈ sKids σ p → I 101 (2 * k + 1) = sNH σ k) (hcol : sSt σ p 0 = 1) : z_Ct lx yX6_placeColumn (zT yX6_placeColumn cX6_placeColumn 3 (Option.none : Option FieldType)) ({ frames := 5, cells := 0, slots := 0, locals := 129 } : Room) g N I P J [.ref (g.1 95), .int (nI p)] (fun v I' P' J' => v = none ∧ P' = P ∧ zpk σ p I J I' J') 0 0 := by
  refine z_of (by decide) (Nat.le_of_ble_eq_true rfl) (lv0 := [(0, .ref (g.1 95)), (1, .int (nI p))]) rfl ?_
  intro C hlx hC hE hRm
  have hC : zX C cX6_placeColumn 3 RX6 (zT yX6_placeColumn cX6_placeColumn 3 (Option.none : Option FieldType)) g N := hC
  refine z_aload_n (pc := 0) hC 0 dX6_placeColumn_0 rfl rfl z_isr_r ?_
  refine z_iload_n (pc := 1) hC 1 dX6_placeColumn_1 rfl rfl ?_
  refine z_iconst (pc := 2) (v := 0) hC dX6_placeColumn_2 rfl ?_
  refine z_aload_n (pc := 3) hC 0 dX6_placeColumn_3 rfl rfl z_isr_r ?_
  refine z_gI (pc := 4) hC 6 5 (x := nI (kn σ p)) rfl (z_lt hC (by decide)) rfl inX6 (by decide) rfl zm_4_78 hk.1 dX6_placeColumn_4 ?_
  refine z_iconst (pc := 7) (v := 1) hC dX6_placeColumn_7 rfl ?_
  refine z_aload_n (pc := 8) hC 0 dX6_placeColumn_8 rfl rfl z_isr_r ?_
  refine z_iload_n (pc := 9) hC 1 dX6_placeColumn_9 rfl rfl ?_
  refine z_iconst (pc := 10) (v := 1) hC dX6_placeColumn_10 rfl ?_
  refine z_cV (pc := 11) (st := [.int 1, .int (nI (kn σ p)), .int 0, .int (nI p), .ref (g.1 95)]) hC [.int (nI p), .int 1] (kX6_inner C.2.1 g N I P J hm p 1 he (by decide) (sHT σ p) hH) rfl (z_lt hC (by decide)) rfl zkX6_inner zm_5_4 ⟨rfl, rfl⟩ rfl rfl hRm ⟨Nat.le_of_ble_eq_true rfl, Nat.le_of_ble_eq_true rfl⟩ (Nat.le_of_ble_eq_true rfl) ⟨Nat.zero_le _, Nat.zero_le _⟩ dX6_placeColumn_11 ?_
  refine z_callV (pc := 14) (st := []) hC [.int (nI p), .int 0, .int (nI (kn σ p)), .int 1, .int (sIn (sHT σ p) (sSt σ p 5))] (kX6_flex C.2.1 g N I P J hm p he hk false 0 (kn σ p) 1 rfl (Nat.zero_le _) (Nat.le_refl _) (by decide) (sNH σ) hkh (sNH_bd hm.1 p) (sIn (sHT σ p) (sSt σ p 5)) (sIn_rng hm.1 he (sHT_rng hm.1 hs))) rfl (z_lt hC (by decide)) rfl zkX6_flex zm_5_35 ⟨rfl, rfl⟩ rfl rfl hRm ⟨Nat.le_of_ble_eq_true rfl, Nat.le_of_ble_eq_true rfl⟩ (Nat.le_of_ble_eq_true rfl) ⟨Nat.zero_le _, Nat.zero_le _⟩ dX6_placeColumn_14 ?_
  intro v I1 P1 J1 hq
  obtain ⟨hv, hP1, hJ1, hf1, hv1⟩ := hq
  subst hv
  rw [hP1]
  have hm1 := hm.eq (fun k => hf1 96 k (by decide) (by decide) (by omega))
  have hk1 : zKq σ p I1 := ⟨(hf1 95 5 (by decide) (by decide) (by omega)).trans hk.1, fun k hkk => (hf1 99 k (by decide) (by decide) (by omega)).trans (hk.2 k hkk)⟩
  have hs1 : ∀ i, i < kn σ p → I1 102 (2 * kd σ p i + 1) = sHT σ (kd σ p i) := fun i hi => by
    rw [hv1 i (Nat.zero_le _) hi, sHT_kd hm.1 hi]
    unfold sKH
    rw [if_pos hcol]
  have hW1 : I1 102 (2 * p + 0) = sWD σ p := (hf1 102 _ (by decide) (by decide) (fun y => by obtain ⟨_, i, y1, y2, y3⟩ := y; have := (sKids_lt hm.1 (kd_mem (σ := σ) (p := p) (i := i) (by omega))).1; omega)).trans hW
  have hH1 : I1 102 (2 * p + 1) = sHT σ p := (hf1 102 _ (by decide) (by decide) (fun y => by obtain ⟨_, i, y1, y2, y3⟩ := y; have := (sKids_lt hm.1 (kd_mem (σ := σ) (p := p) (i := i) (by omega))).1; omega)).trans hH
  have hX1 : I1 103 (2 * p + 0) = sX σ p := (hf1 103 _ (by decide) (by decide) (fun y => absurd y.1 (by decide))).trans hX
  have hY1 : I1 103 (2 * p + 1) = sY σ p := (hf1 103 _ (by decide) (by decide) (fun y => absurd y.1 (by decide))).trans hY
  have hkw1 : ∀ k, k ∈ sKids σ p → I1 102 (2 * k + 0) = sWD σ k := fun k hkk => (hf1 102 _ (by decide) (by decide) (fun y => by obtain ⟨_, i, y1, y2, y3⟩ := y; omega)).trans (hkw k hkk)
  show zJ C g N 3 0 0 I1 P J1 17 [(0, .ref (g.1 95)), (1, .int (nI p))] []
  refine z_aload_n (pc := 17) hC 0 dX6_placeColumn_17 rfl rfl z_isr_r ?_
  refine z_iload_n (pc := 18) hC 1 dX6_placeColumn_18 rfl rfl ?_
  refine z_iconst (pc := 19) (v := 0) hC dX6_placeColumn_19 rfl ?_
  refine z_aload_n (pc := 20) hC 0 dX6_placeColumn_20 rfl rfl z_isr_r ?_
  refine z_gI (pc := 21) hC 6 5 (x := nI (kn σ p)) rfl (z_lt hC (by decide)) rfl inX6 (by decide) rfl zm_4_78 hk1.1 dX6_placeColumn_21 ?_
  refine z_iconst (pc := 24) (v := 1) hC dX6_placeColumn_24 rfl ?_
  refine z_callV (pc := 25) (st := []) hC [.int (nI p), .int 0, .int (nI (kn σ p)), .int 1] (kX6_justify C.2.1 g N I1 P J1 hm1 p he hk1 0 (kn σ p) 1 (Nat.zero_le _) (Nat.le_refl _) (by decide) (sHT σ) (fun i _ hi => hs1 i hi) (sHT σ p) (sY σ p) hH1 hY1) rfl (z_lt hC (by decide)) rfl zkX6_justify zm_5_75 ⟨rfl, rfl⟩ rfl rfl hRm ⟨Nat.le_of_ble_eq_true rfl, Nat.le_of_ble_eq_true rfl⟩ (Nat.le_of_ble_eq_true rfl) ⟨Nat.zero_le _, Nat.zero_le _⟩ dX6_placeColumn_25 ?_
  intro v I2 P2 J2 hq
  obtain ⟨hv, hP2, hJ2, hj⟩ := hq
  subst hv
  rw [hP2, hJ2]
  have hm2 := hm1.eq (fun k => hj.1 96 k (by omega))
  show zJ C g N 3 0 0 I2 P J1 28 [(0, .ref (g.1 95)), (1, .int (nI p))] []
  refine z_iconst (pc := 28) (v := 0) hC dX6_placeColumn_28 rfl ?_
  refine z_istore_n (pc := 29) (lv' := [(2, .int 0), (0, .ref (g.1 95)), (1, .int (nI p))]) hC dX6_placeColumn_29 rfl (by decide) rfl ?_
  have hkm := kn_le hm.1 p
  have L30 : ∀ (zf : Nat) (k : Nat) (Ik : Nat → Nat → Int32) (hkk : k ≤ kn σ p) (hz : zac σ p k I2 Ik), kn σ p - k < zf → zJ C g N 3 0 0 Ik P J1 30 [(2, .int (nI k)), (0, .ref (g.1 95)), (1, .int (nI p))] [] := by
    intro zf
    induction zf with
    | zero =>
      intro k Ik hkk hz hn2
      exact absurd hn2 (Nat.not_lt_zero _)
    | succ zf ih =>
      intro k Ik hkk hz hn2
      have hmk := hm2.eq (fun k => hz.1 96 k (fun y => absurd y.1 (by decide)))
      refine z_iload_n (pc := 30) hC 0 dX6_placeColumn_30 rfl rfl ?_
      refine z_aload_n (pc := 31) hC 1 dX6_placeColumn_31 rfl rfl z_isr_r ?_
      refine z_gI (pc := 32) hC 6 5 (x := nI (kn σ p)) rfl (z_lt hC (by decide)) rfl inX6 (by decide) rfl zm_4_78 ((hz.1 95 5 (fun y => absurd y.1 (by decide))).trans ((hj.1 95 5 (fun y => absurd y.1 (by decide))).trans hk1.1)) dX6_placeColumn_32 ?_
      refine z_icmp_ge (pc := 35) (tgt := 76) hC dX6_placeColumn_35 (by decide) (fun h35 => ?_) (fun h35 => ?_)
      · skip
        have g35 := Int32.not_lt.mpr h35
        have ek : k = kn σ p := Nat.le_antisymm hkk (zc_ge h35 (by omega) (by omega))
        exact z_vret (pc := 76) hC hE dX6_placeColumn_76 ⟨rfl, rfl, by subst ek; exact zpk_col hm.1 hcol hf1 hJ1 hs1 hj hz⟩
      · skip
        have g35 := Int32.not_le.mp h35
        have hkn := zc_lt h35 (by omega) (by omega)
        have hk40 := (sKids_lt hm.1 (kd_mem hkn)).2.1
        have hp40 := (hm.lt he).2
        refine z_aload_n (pc := 38) hC 1 dX6_placeColumn_38 rfl rfl z_isr_r ?_
        refine z_aload_n (pc := 39) hC 1 dX6_placeColumn_39 rfl rfl z_isr_r ?_
        refine z_gF (pc := 40) hC 6 4 (t := 99) rfl (z_lt hC (by decide)) rfl inX6 (by decide) rfl zm_4_77 rfl dX6_placeColumn_40 ?_
        refine z_iload_n (pc := 43) hC 0 dX6_placeColumn_43 rfl rfl ?_
        refine z_iaN (pc := 44) hC k (x := nI (kd σ p k)) rfl (z_lt hC (by decide)) rfl (by omega) (by decide) ((hz.1 99 k (fun y => absurd y.1 (by decide))).trans ((hj.1 99 k (fun y => absurd y.1 (by decide))).trans (hk1.2 k hkn))) dX6_placeColumn_44 ?_
        refine z_iconst (pc := 45) (v := 0) hC dX6_placeColumn_45 rfl ?_
        refine z_aload_n (pc := 46) hC 1 dX6_placeColumn_46 rfl rfl z_isr_r ?_
        refine z_gF (pc := 47) hC 6 9 (t := 103) rfl (z_lt hC (by decide)) rfl inX6 (by decide) rfl zm_4_82 rfl dX6_placeColumn_47 ?_
        refine z_iconst (pc := 50) (v := 2) hC dX6_placeColumn_50 rfl ?_
        refine z_iload_n (pc := 51) hC 2 dX6_placeColumn_51 rfl rfl ?_
        refine z_imul (pc := 52) hC dX6_placeColumn_52 ?_
        refine z_iaN (pc := 53) hC (2 * p + 0) (x := sX σ p) rfl (z_lt hC (by decide)) (zix2z p) (by omega) (by decide) ((hz.1 103 _ (fun y => by obtain ⟨_, c, y1, y2⟩ := y; have := (sKids_lt hm.1 y1).1; omega)).trans ((hj.1 103 _ (fun y => by obtain ⟨_, i, y1, y2, y3⟩ := y; omega)).trans hX1)) dX6_placeColumn_53 ?_
        refine z_aload_n (pc := 54) hC 1 dX6_placeColumn_54 rfl rfl z_isr_r ?_
        refine z_iload_n (pc := 55) hC 2 dX6_placeColumn_55 rfl rfl ?_
        refine z_iconst (pc := 56) (v := 5) hC dX6_placeColumn_56 rfl ?_
        refine z_cV (pc := 57) (st := [.int (sX σ p), .int 0, .int (nI (kd σ p k)), .ref (g.1 95)]) hC [.int (nI p), .int 5] (kX6_of C.2.1 g N Ik P J1 hmk p 5 he (by decide) 5 rfl) rfl (z_lt hC (by decide)) rfl zkX6_of zm_4_162 ⟨rfl, rfl⟩ rfl rfl hRm ⟨Nat.le_of_ble_eq_true rfl, Nat.le_of_ble_eq_true rfl⟩ (Nat.le_of_ble_eq_true rfl) ⟨Nat.zero_le _, Nat.zero_le _⟩ dX6_placeColumn_57 ?_
        refine z_iadd (pc := 60) hC dX6_placeColumn_60 ?_
        refine z_aload_n (pc := 61) hC 1 dX6_placeColumn_61 rfl rfl z_isr_r ?_
        refine z_iload_n (pc := 62) hC 2 dX6_placeColumn_62 rfl rfl ?_
        refine z_iconst (pc := 63) (v := 0) hC dX6_placeColumn_63 rfl ?_
        refine z_cV (pc := 64) (st := [.int ((sX σ p) + (sSt σ p 5)), .int 0, .int (nI (kd σ p k)), .ref (g.1 95)]) hC [.int (nI p), .int 0] (kX6_inner C.2.1 g N Ik P J1 hmk p 0 he (by decide) (sWD σ p) ((hz.1 102 _ (fun y => absurd y.1 (by decide))).trans ((hj.1 102 _ (fun y => absurd y.1 (by decide))).trans hW1))) rfl (z_lt hC (by decide)) rfl zkX6_inner zm_5_4 ⟨rfl, rfl⟩ rfl rfl hRm ⟨Nat.le_of_ble_eq_true rfl, Nat.le_of_ble_eq_true rfl⟩ (Nat.le_of_ble_eq_true rfl) ⟨Nat.zero_le _, Nat.zero_le _⟩ dX6_placeColumn_64 ?_
        refine z_cV (pc := 67) (st := []) hC [.int (nI (kd σ p k)), .int 0, .int ((sX σ p) + (sSt σ p 5)), .int (sIn (sWD σ p) (sSt σ p 5))] (kX6_align C.2.1 g N Ik P J1 hmk (kd σ p k) (sKids_lt hm.1 (kd_mem hkn)).2.2.1 (sKids_lt hm.1 (kd_mem hkn)).2.2.2.2 0 (by decide) (sX σ p + sSt σ p 5) (sIn (sWD σ p) (sSt σ p 5)) (sWD σ (kd σ p k)) ((hz.1 102 _ (fun y => absurd y.1 (by decide))).trans ((hj.1 102 _ (fun y => absurd y.1 (by decide))).trans (hkw1 _ (kd_mem hkn))))) rfl (z_lt hC (by decide)) rfl zkX6_align zm_5_82 ⟨rfl, rfl⟩ rfl rfl hRm ⟨Nat.le_of_ble_eq_true rfl, Nat.le_of_ble_eq_true rfl⟩ (Nat.le_of_ble_eq_true rfl) ⟨Nat.zero_le _, Nat.zero_le _⟩ dX6_placeColumn_67 ?_
        refine z_iinc (pc := 70) (v := nI (k + 1)) (lv' := [(2, .int (nI (k + 1))), (0, .ref (g.1 95)), (1, .int (nI p))]) hC 0 dX6_placeColumn_70 rfl (nI_1 k) (by decide) rfl ?_
        refine z_goto (pc := 73) (tgt := 30) hC dX6_placeColumn_73 (by decide) ?_
        exact ih (k + 1) _ (by omega) (zac_s hkn hz) (by omega)
  exact L30 41 0 I2 (Nat.zero_le _) zac_0 (by omega)
end ZM20
