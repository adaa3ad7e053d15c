section ZM3
/-- what a method of the model leaves of the others -/
def zKm (I : Nat → Nat → Int32) (P : Nat → Nat → Option Nat) (J : Nat → Nat → Int64) (I' : Nat → Nat → Int32) (P' : Nat → Nat → Option Nat) (J' : Nat → Nat → Int64) : Prop := P' = P ∧ (∀ q j, q ≠ 107 → J' q j = J q j) ∧ ∀ q j, ¬ (95 ≤ q ∧ q < 110 ∧ q ≠ 97 ∧ q ≠ 98) → I' q j = I q j
theorem zKm.rf {I : Nat → Nat → Int32} {P : Nat → Nat → Option Nat} {J : Nat → Nat → Int64} : zKm I P J I P J := ⟨rfl, fun _ _ _ => rfl, fun _ _ _ => rfl⟩
theorem zKm.u {I : Nat → Nat → Int32} {P : Nat → Nat → Option Nat} {J : Nat → Nat → Int64} {I' : Nat → Nat → Int32} {P' : Nat → Nat → Option Nat} {J' : Nat → Nat → Int64} (h : zKm I P J I' P' J') {i k : Nat} {v : Int32} (hi : 95 ≤ i ∧ i < 110 ∧ i ≠ 97 ∧ i ≠ 98) : zKm I P J (z_u I' i k v) P' J' := ⟨h.1, h.2.1, fun q j hq => by
  rw [z_u_a _ _ (fun e => hq (by rw [e]; exact hi))]
  exact h.2.2 q j hq⟩
theorem zKm.tr {I I1 I2 : Nat → Nat → Int32} {P P1 P2 : Nat → Nat → Option Nat} {J J1 J2 : Nat → Nat → Int64} (h1 : zKm I P J I1 P1 J1) (h2 : zKm I1 P1 J1 I2 P2 J2) : zKm I P J I2 P2 J2 := ⟨h2.1.trans h1.1, fun q j h => (h2.2.1 q j h).trans (h1.2.1 q j h), fun q j h => (h2.2.2 q j h).trans (h1.2.2 q j h)⟩
theorem zMd_set {σ : zS} {I : Nat → Nat → Int32} (h : zMd σ I) {b k : Nat} (he : sEx σ b = true) (hk : k < 20) {v : Int32} (hv : z_st 0 k ≤ v ∧ v ≤ z_st 1 k) : zMd (sSet σ b k v) (z_u I 96 (43 + 20 * b + k) v) := by
  obtain ⟨h1, h2, h3, h4, h5, h6⟩ := h
  obtain ⟨w1, w2, w3, w4, w5, w6, w7, w8⟩ := h1
  refine ⟨⟨w1, w2, w3, w4, w5, fun c hc j hj => ?_, w7, w8⟩, ?_, ?_, ?_, fun c hc => ?_, fun c j hc hj => ?_⟩
  · show z_st 0 j ≤ z_u σ.2.2.1 b k v c j ∧ z_u σ.2.2.1 b k v c j ≤ z_st 1 j
    by_cases e : c = b ∧ j = k
    · rw [e.1, e.2, z_u_s]; exact hv
    · rw [z_u_r2 _ e]; exact w6 c hc j hj
  · rw [z_u_b _ _ (by omega)]; exact h2
  · rw [z_u_b _ _ (by omega)]; exact h3
  · rw [z_u_b _ _ (by omega)]; exact h4
  · have hc' : c < sGv σ := hc
    rw [z_u_b _ _ (by omega)]; exact h5 c hc
  · show z_u I 96 (43 + 20 * b + k) v 96 (43 + 20 * c + j) = z_u σ.2.2.1 b k v c j
    by_cases e : c = b ∧ j = k
    · rw [e.1, e.2, z_u_s, z_u_s]
    · rw [z_u_r2 _ e, z_u_b _ _ (fun z => e ⟨by omega, by omega⟩)]; exact h6 c j hc hj
theorem zMd_vp {σ : zS} {I : Nat → Nat → Int32} (h : zMd σ I) {w v : Int32} (hw : 0 ≤ w ∧ w ≤ 2000) (hv : 0 ≤ v ∧ v ≤ 2000) : zMd (sVp σ w v) (z_u (z_u I 96 1 w) 96 2 v) := by
  obtain ⟨h1, h2, h3, h4, h5, h6⟩ := h
  obtain ⟨w1, w2, w3, w4, w5, w6, w7, w8⟩ := h1
  refine ⟨⟨w1, w2, w3, w4, w5, w6, hw, hv⟩, ?_, ?_, ?_, fun c hc => ?_, fun c j hc hj => ?_⟩
  · rw [z_u_b _ _ (by omega), z_u_b _ _ (by omega)]; exact h2
  · rw [z_u_b _ _ (by omega), z_u_s]; rfl
  · rw [z_u_s]; rfl
  · rw [z_u_b _ _ (by omega), z_u_b _ _ (by omega)]; exact h5 c hc
  · rw [z_u_b _ _ (by omega), z_u_b _ _ (by omega)]; exact h6 c j hc hj
set_option maxHeartbeats 4000000 in
set_option maxRecDepth 100000 in
theorem kX6_parent (lx : Launch) (g : zG) (N : Nat) (I : Nat → Nat → Int32) (P : Nat → Nat → Option Nat) (J : Nat → Nat → Int64) {σ : zS} (hm : zMd σ I) (x : Int32) : z_Ct lx yX6_parent (zT yX6_parent cX6_parent 2 (Option.some FieldType.int)) ({ frames := 2, cells := 0, slots := 0, locals := 43 } : Room) g N I P J [.ref (g.1 95), .int x] (fun v I' P' J' => ((zbx σ x = false ∧ I' 95 3 = 1) ∨ ∃ b, x = nI b ∧ b < 40 ∧ sEx σ b = true ∧ v = some (.int (sPnu σ b)) ∧ I' 95 3 = 0) ∧ zMd σ I' ∧ zKm I P J I' P' J') 0 0 := by
  refine z_of (by decide) (Nat.le_of_ble_eq_true rfl) (lv0 := [(0, .ref (g.1 95)), (1, .int x)]) rfl ?_
  intro C hlx hC hE hRm
  have hC : zX C cX6_parent 2 RX6 (zT yX6_parent cX6_parent 2 (Option.some FieldType.int)) g N := hC
  refine z_aload_n (pc := 0) hC 0 dX6_parent_0 rfl rfl z_isr_r ?_
  refine z_aload_n (pc := 1) hC 0 dX6_parent_1 rfl rfl z_isr_r ?_
  refine z_iload_n (pc := 2) hC 1 dX6_parent_2 rfl rfl ?_
  refine z_cV (pc := 3) (st := [.ref (g.1 95)]) hC [.int x] (kX6_isBox C.2.1 g N I P J hm x) rfl (z_lt hC (by decide)) rfl zkX6_isBox zm_4_131 ⟨rfl, rfl⟩ rfl rfl hRm ⟨Nat.le_of_ble_eq_true rfl, Nat.le_of_ble_eq_true rfl⟩ (Nat.le_of_ble_eq_true rfl) ⟨Nat.zero_le _, Nat.zero_le _⟩ dX6_parent_3 ?_
  refine z_if_eq (pc := 6) (tgt := 13) hC dX6_parent_6 (by decide) (fun h6 => ?_) (fun h6 => ?_)
  · skip
    have g6 := zB_f h6
    refine z_iconst (pc := 13) (v := 1) hC dX6_parent_13 rfl ?_
    refine z_pI (pc := 14) hC 6 3 rfl (z_lt hC (by decide)) rfl inX6 tyX6_ok nmX6 (by decide) rfl zm_4_76 rfl rfl rfl dX6_parent_14 ?_
    refine z_aload_n (pc := 17) hC 0 dX6_parent_17 rfl rfl z_isr_r ?_
    refine z_gI (pc := 18) hC 6 3 (x := 1) rfl (z_lt hC (by decide)) rfl inX6 (by decide) rfl zm_4_76 (z_u_s _ _ _ _) dX6_parent_18 ?_
    refine z_if_eq (pc := 21) (tgt := 28) hC dX6_parent_21 (by decide) (fun h21 => ?_) (fun h21 => ?_)
    · skip
      exact absurd h21 (by decide)
    · skip
      refine z_iconst (pc := 24) (v := 0) hC dX6_parent_24 rfl ?_
      refine z_goto (pc := 25) (tgt := 36) hC dX6_parent_25 (by decide) ?_
      exact z_iret (pc := 36) hC hE dX6_parent_36 ⟨Or.inl ⟨g6, z_u_s _ _ _ _⟩, hm.u (by decide), zKm.rf.u (by decide)⟩
  · skip
    have g6 := zB_t h6
    obtain ⟨b, rfl, hb, he⟩ := zbx_iff.mp g6
    refine z_iconst (pc := 9) (v := 0) hC dX6_parent_9 rfl ?_
    refine z_goto (pc := 10) (tgt := 14) hC dX6_parent_10 (by decide) ?_
    refine z_pI (pc := 14) hC 6 3 rfl (z_lt hC (by decide)) rfl inX6 tyX6_ok nmX6 (by decide) rfl zm_4_76 rfl rfl rfl dX6_parent_14 ?_
    refine z_aload_n (pc := 17) hC 0 dX6_parent_17 rfl rfl z_isr_r ?_
    refine z_gI (pc := 18) hC 6 3 (x := 0) rfl (z_lt hC (by decide)) rfl inX6 (by decide) rfl zm_4_76 (z_u_s _ _ _ _) dX6_parent_18 ?_
    refine z_if_eq (pc := 21) (tgt := 28) hC dX6_parent_21 (by decide) (fun h21 => ?_) (fun h21 => ?_)
    · skip
      refine z_aload_n (pc := 28) hC 0 dX6_parent_28 rfl rfl z_isr_r ?_
      refine z_gF (pc := 29) hC 6 0 (t := 96) rfl (z_lt hC (by decide)) rfl inX6 (by decide) rfl zm_4_73 rfl dX6_parent_29 ?_
      refine z_iconst (pc := 32) (v := 3) hC dX6_parent_32 rfl ?_
      refine z_iload_n (pc := 33) hC 1 dX6_parent_33 rfl rfl ?_
      refine z_iadd (pc := 34) hC dX6_parent_34 ?_
      refine z_iaN (pc := 35) hC (3 + b) (x := sPnu σ b) rfl (z_lt hC (by decide)) (zix3 b) (by omega) (by decide) ((z_u_a _ _ (by decide)).trans (hm.pa he)) dX6_parent_35 ?_
      exact z_iret (pc := 36) hC hE dX6_parent_36 ⟨Or.inr ⟨b, rfl, hb, he, rfl, z_u_s _ _ _ _⟩, hm.u (by decide), zKm.rf.u (by decide)⟩
    · skip
      exact absurd h21 (by decide)
theorem z19 {q : Int32} (h : q ≤ 19) : q < nI 20 := by
  rw [zi_le] at h
  rw [zi_lt, nI_toInt (by decide)]
  have e : (19 : Int32).toInt = 19 := rfl
  omega
theorem z19n {q : Int32} (h : ¬ (0 ≤ q ∧ q ≤ 19)) : ¬ (0 ≤ q ∧ q < 20) := fun z => h ⟨z.1, by
  have z2 := (zi_lt _ _).mp z.2
  rw [zi_le]
  have e : (19 : Int32).toInt = 19 := rfl
  have e2 : (20 : Int32).toInt = 20 := rfl
  omega⟩
set_option maxHeartbeats 4000000 in
set_option maxRecDepth 100000 in
theorem kX6_get (lx : Launch) (g : zG) (N : Nat) (I : Nat → Nat → Int32) (P : Nat → Nat → Option Nat) (J : Nat → Nat → Int64) {σ : zS} (hm : zMd σ I) (x q : Int32) : z_Ct lx yX6_get (zT yX6_get cX6_get 3 (Option.some FieldType.int)) ({ frames := 2, cells := 0, slots := 0, locals := 43 } : Room) g N I P J [.ref (g.1 95), .int x, .int q] (fun v I' P' J' => ((zbx σ x = false ∧ I' 95 3 = 1) ∨ ((zbx σ x = true ∧ ¬ (0 ≤ q ∧ q < 20) ∧ I' 95 3 = 2) ∨ ∃ b k, x = nI b ∧ q = nI k ∧ b < 40 ∧ sEx σ b = true ∧ k < 20 ∧ v = some (.int (sSt σ b k)) ∧ I' 95 3 = 0)) ∧ zMd σ I' ∧ zKm I P J I' P' J') 0 0 := by
  refine z_of (by decide) (Nat.le_of_ble_eq_true rfl) (lv0 := [(0, .ref (g.1 95)), (1, .int x), (2, .int q)]) rfl ?_
  intro C hlx hC hE hRm
  have hC : zX C cX6_get 3 RX6 (zT yX6_get cX6_get 3 (Option.some FieldType.int)) g N := hC
  refine z_aload_n (pc := 0) hC 0 dX6_get_0 rfl rfl z_isr_r ?_
  refine z_aload_n (pc := 1) hC 0 dX6_get_1 rfl rfl z_isr_r ?_
  refine z_iload_n (pc := 2) hC 1 dX6_get_2 rfl rfl ?_
  refine z_cV (pc := 3) (st := [.ref (g.1 95)]) hC [.int x] (kX6_isBox C.2.1 g N I P J hm x) rfl (z_lt hC (by decide)) rfl zkX6_isBox zm_4_131 ⟨rfl, rfl⟩ rfl rfl hRm ⟨Nat.le_of_ble_eq_true rfl, Nat.le_of_ble_eq_true rfl⟩ (Nat.le_of_ble_eq_true rfl) ⟨Nat.zero_le _, Nat.zero_le _⟩ dX6_get_3 ?_
  refine z_if_ne (pc := 6) (tgt := 13) hC dX6_get_6 (by decide) (fun h6 => ?_) (fun h6 => ?_)
  · skip
    have g6 := zB_t h6
    obtain ⟨b, rfl, hb, he⟩ := zbx_iff.mp g6
    refine z_iload_n (pc := 13) hC 2 dX6_get_13 rfl rfl ?_
    refine z_iconst (pc := 14) (v := 0) hC dX6_get_14 rfl ?_
    refine z_bipush (pc := 15) (v := 19) hC dX6_get_15 rfl ?_
    refine z_cS (pc := 17) (st := [.ref (g.1 95)]) hC [.int q, .int 0, .int 19] (kX6_in C.2.1 g N I P J q 0 19) zkX6_in zm_4_135 ⟨rfl, rfl⟩ rfl rfl hRm ⟨Nat.le_of_ble_eq_true rfl, Nat.le_of_ble_eq_true rfl⟩ (Nat.le_of_ble_eq_true rfl) ⟨Nat.zero_le _, Nat.zero_le _⟩ dX6_get_17 ?_
    refine z_if_ne (pc := 20) (tgt := 27) hC dX6_get_20 (by decide) (fun h20 => ?_) (fun h20 => ?_)
    · skip
      have g20 := zB_t h20
      obtain ⟨q0, q1⟩ := of_decide_eq_true g20
      obtain ⟨k, hk, rfl⟩ := zi_nI (n := 20) (by decide) q0 (z19 q1)
      refine z_iconst (pc := 27) (v := 0) hC dX6_get_27 rfl ?_
      refine z_pI (pc := 28) hC 6 3 rfl (z_lt hC (by decide)) rfl inX6 tyX6_ok nmX6 (by decide) rfl zm_4_76 rfl rfl rfl dX6_get_28 ?_
      refine z_aload_n (pc := 31) hC 0 dX6_get_31 rfl rfl z_isr_r ?_
      refine z_gI (pc := 32) hC 6 3 (x := 0) rfl (z_lt hC (by decide)) rfl inX6 (by decide) rfl zm_4_76 (z_u_s _ _ _ _) dX6_get_32 ?_
      refine z_if_eq (pc := 35) (tgt := 42) hC dX6_get_35 (by decide) (fun h35 => ?_) (fun h35 => ?_)
      · skip
        refine z_aload_n (pc := 42) hC 0 dX6_get_42 rfl rfl z_isr_r ?_
        refine z_iload_n (pc := 43) hC 1 dX6_get_43 rfl rfl ?_
        refine z_iload_n (pc := 44) hC 2 dX6_get_44 rfl rfl ?_
        refine z_cV (pc := 45) (st := []) hC [.int (nI b), .int (nI k)] (kX6_of C.2.1 g N (z_u I 95 3 0) P J (hm.u (show 96 ≠ 95 by decide)) b k he hk (nI k) rfl) rfl (z_lt hC (by decide)) rfl zkX6_of zm_4_162 ⟨rfl, rfl⟩ rfl rfl hRm ⟨Nat.le_of_ble_eq_true rfl, Nat.le_of_ble_eq_true rfl⟩ (Nat.le_of_ble_eq_true rfl) ⟨Nat.zero_le _, Nat.zero_le _⟩ dX6_get_45 ?_
        exact z_iret (pc := 48) hC hE dX6_get_48 ⟨Or.inr (Or.inr ⟨b, k, rfl, rfl, hb, he, hk, rfl, z_u_s _ _ _ _⟩), hm.u (by decide), zKm.rf.u (by decide)⟩
      · skip
        exact absurd h35 (by decide)
    · skip
      have g20 := zB_f h20
      refine z_iconst (pc := 23) (v := 2) hC dX6_get_23 rfl ?_
      refine z_goto (pc := 24) (tgt := 28) hC dX6_get_24 (by decide) ?_
      refine z_pI (pc := 28) hC 6 3 rfl (z_lt hC (by decide)) rfl inX6 tyX6_ok nmX6 (by decide) rfl zm_4_76 rfl rfl rfl dX6_get_28 ?_
      refine z_aload_n (pc := 31) hC 0 dX6_get_31 rfl rfl z_isr_r ?_
      refine z_gI (pc := 32) hC 6 3 (x := 2) rfl (z_lt hC (by decide)) rfl inX6 (by decide) rfl zm_4_76 (z_u_s _ _ _ _) dX6_get_32 ?_
      refine z_if_eq (pc := 35) (tgt := 42) hC dX6_get_35 (by decide) (fun h35 => ?_) (fun h35 => ?_)
      · skip
        exact absurd h35 (by decide)
      · skip
        refine z_iconst (pc := 38) (v := 0) hC dX6_get_38 rfl ?_
        refine z_goto (pc := 39) (tgt := 48) hC dX6_get_39 (by decide) ?_
        exact z_iret (pc := 48) hC hE dX6_get_48 ⟨Or.inr (Or.inl ⟨g6, z19n (of_decide_eq_false g20), z_u_s _ _ _ _⟩), hm.u (by decide), zKm.rf.u (by decide)⟩
  · skip
    have g6 := zB_f h6
    refine z_iconst (pc := 9) (v := 1) hC dX6_get_9 rfl ?_
    refine z_goto (pc := 10) (tgt := 28) hC dX6_get_10 (by decide) ?_
    refine z_pI (pc := 28) hC 6 3 rfl (z_lt hC (by decide)) rfl inX6 tyX6_ok nmX6 (by decide) rfl zm_4_76 rfl rfl rfl dX6_get_28 ?_
    refine z_aload_n (pc := 31) hC 0 dX6_get_31 rfl rfl z_isr_r ?_
    refine z_gI (pc := 32) hC 6 3 (x := 1) rfl (z_lt hC (by decide)) rfl inX6 (by decide) rfl zm_4_76 (z_u_s _ _ _ _) dX6_get_32 ?_
    refine z_if_eq (pc := 35) (tgt := 42) hC dX6_get_35 (by decide) (fun h35 => ?_) (fun h35 => ?_)
    · skip
      exact absurd h35 (by decide)
    · skip
      refine z_iconst (pc := 38) (v := 0) hC dX6_get_38 rfl ?_
      refine z_goto (pc := 39) (tgt := 48) hC dX6_get_39 (by decide) ?_
      exact z_iret (pc := 48) hC hE dX6_get_48 ⟨Or.inl ⟨g6, z_u_s _ _ _ _⟩, hm.u (by decide), zKm.rf.u (by decide)⟩
set_option maxHeartbeats 4000000 in
set_option maxRecDepth 100000 in
theorem kX6_set (lx : Launch) (g : zG) (N : Nat) (I : Nat → Nat → Int32) (P : Nat → Nat → Option Nat) (J : Nat → Nat → Int64) {σ : zS} (hm : zMd σ I) (x q v : Int32) : z_Ct lx yX6_set (zT yX6_set cX6_set 5 (Option.some FieldType.int)) ({ frames := 2, cells := 0, slots := 0, locals := 43 } : Room) g N I P J [.ref (g.1 95), .int x, .int q, .int v] (fun r I' P' J' => ((zbx σ x = false ∧ I' 95 3 = 1 ∧ zMd σ I') ∨ ((zbx σ x = true ∧ ¬ sOk q v ∧ I' 95 3 = 2 ∧ zMd σ I') ∨ ∃ b k, x = nI b ∧ q = nI k ∧ b < 40 ∧ sEx σ b = true ∧ k < 20 ∧ (z_st 0 k ≤ v ∧ v ≤ z_st 1 k) ∧ r = some (.int (sSt σ b k)) ∧ I' 95 3 = 0 ∧ zMd (sSet σ b k v) I')) ∧ zKm I P J I' P' J') 0 0 := by
  refine z_of (by decide) (Nat.le_of_ble_eq_true rfl) (lv0 := [(0, .ref (g.1 95)), (1, .int x), (2, .int q), (3, .int v)]) rfl ?_
  intro C hlx hC hE hRm
  have hC : zX C cX6_set 5 RX6 (zT yX6_set cX6_set 5 (Option.some FieldType.int)) g N := hC
  refine z_aload_n (pc := 0) hC 0 dX6_set_0 rfl rfl z_isr_r ?_
  refine z_aload_n (pc := 1) hC 0 dX6_set_1 rfl rfl z_isr_r ?_
  refine z_iload_n (pc := 2) hC 1 dX6_set_2 rfl rfl ?_
  refine z_cV (pc := 3) (st := [.ref (g.1 95)]) hC [.int x] (kX6_isBox C.2.1 g N I P J hm x) rfl (z_lt hC (by decide)) rfl zkX6_isBox zm_4_131 ⟨rfl, rfl⟩ rfl rfl hRm ⟨Nat.le_of_ble_eq_true rfl, Nat.le_of_ble_eq_true rfl⟩ (Nat.le_of_ble_eq_true rfl) ⟨Nat.zero_le _, Nat.zero_le _⟩ dX6_set_3 ?_
  refine z_if_ne (pc := 6) (tgt := 13) hC dX6_set_6 (by decide) (fun h6 => ?_) (fun h6 => ?_)
  · skip
    have g6 := zB_t h6
    obtain ⟨b, rfl, hb, he⟩ := zbx_iff.mp g6
    refine z_iload_n (pc := 13) hC 2 dX6_set_13 rfl rfl ?_
    refine z_iconst (pc := 14) (v := 0) hC dX6_set_14 rfl ?_
    refine z_bipush (pc := 15) (v := 19) hC dX6_set_15 rfl ?_
    refine z_cS (pc := 17) (st := [.ref (g.1 95)]) hC [.int q, .int 0, .int 19] (kX6_in C.2.1 g N I P J q 0 19) zkX6_in zm_4_135 ⟨rfl, rfl⟩ rfl rfl hRm ⟨Nat.le_of_ble_eq_true rfl, Nat.le_of_ble_eq_true rfl⟩ (Nat.le_of_ble_eq_true rfl) ⟨Nat.zero_le _, Nat.zero_le _⟩ dX6_set_17 ?_
    refine z_if_eq (pc := 20) (tgt := 38) hC dX6_set_20 (by decide) (fun h20 => ?_) (fun h20 => ?_)
    · skip
      have g20 := zB_f h20
      refine z_iconst (pc := 38) (v := 2) hC dX6_set_38 rfl ?_
      refine z_goto (pc := 39) (tgt := 43) hC dX6_set_39 (by decide) ?_
      refine z_pI (pc := 43) hC 6 3 rfl (z_lt hC (by decide)) rfl inX6 tyX6_ok nmX6 (by decide) rfl zm_4_76 rfl rfl rfl dX6_set_43 ?_
      refine z_aload_n (pc := 46) hC 0 dX6_set_46 rfl rfl z_isr_r ?_
      refine z_gI (pc := 47) hC 6 3 (x := 2) rfl (z_lt hC (by decide)) rfl inX6 (by decide) rfl zm_4_76 (z_u_s _ _ _ _) dX6_set_47 ?_
      refine z_if_eq (pc := 50) (tgt := 55) hC dX6_set_50 (by decide) (fun h50 => ?_) (fun h50 => ?_)
      · skip
        exact absurd h50 (by decide)
      · skip
        refine z_iconst (pc := 53) (v := 0) hC dX6_set_53 rfl ?_
        exact z_iret (pc := 54) hC hE dX6_set_54 ⟨Or.inr (Or.inl ⟨g6, fun z => by obtain ⟨k2, e2, hk2, _⟩ := z; exact z19n (of_decide_eq_false g20) (by rw [e2]; exact nI_20 hk2), z_u_s _ _ _ _, hm.u (by decide)⟩), zKm.rf.u (by decide)⟩
    · skip
      have g20 := zB_t h20
      obtain ⟨q0, q1⟩ := of_decide_eq_true g20
      obtain ⟨k, hk, rfl⟩ := zi_nI (n := 20) (by decide) q0 (z19 q1)
      refine z_iload_n (pc := 23) hC 3 dX6_set_23 rfl rfl ?_
      refine z_iload_n (pc := 24) hC 2 dX6_set_24 rfl rfl ?_
      refine z_cS (pc := 25) (st := [.int v, .ref (g.1 95)]) hC [.int (nI k)] (kX6_low C.2.1 g N I P J k hk) zkX6_low zm_4_174 ⟨rfl, rfl⟩ rfl rfl hRm ⟨Nat.le_of_ble_eq_true rfl, Nat.le_of_ble_eq_true rfl⟩ (Nat.le_of_ble_eq_true rfl) ⟨Nat.zero_le _, Nat.zero_le _⟩ dX6_set_25 ?_
      refine z_iload_n (pc := 28) hC 2 dX6_set_28 rfl rfl ?_
      refine z_cS (pc := 29) (st := [.int (z_st 0 k), .int v, .ref (g.1 95)]) hC [.int (nI k)] (kX6_high C.2.1 g N I P J k hk) zkX6_high zm_4_177 ⟨rfl, rfl⟩ rfl rfl hRm ⟨Nat.le_of_ble_eq_true rfl, Nat.le_of_ble_eq_true rfl⟩ (Nat.le_of_ble_eq_true rfl) ⟨Nat.zero_le _, Nat.zero_le _⟩ dX6_set_29 ?_
      refine z_cS (pc := 32) (st := [.ref (g.1 95)]) hC [.int v, .int (z_st 0 k), .int (z_st 1 k)] (kX6_in C.2.1 g N I P J v (z_st 0 k) (z_st 1 k)) zkX6_in zm_4_135 ⟨rfl, rfl⟩ rfl rfl hRm ⟨Nat.le_of_ble_eq_true rfl, Nat.le_of_ble_eq_true rfl⟩ (Nat.le_of_ble_eq_true rfl) ⟨Nat.zero_le _, Nat.zero_le _⟩ dX6_set_32 ?_
      refine z_if_ne (pc := 35) (tgt := 42) hC dX6_set_35 (by decide) (fun h35 => ?_) (fun h35 => ?_)
      · skip
        have g35 := zB_t h35
        obtain hv := of_decide_eq_true g35
        refine z_iconst (pc := 42) (v := 0) hC dX6_set_42 rfl ?_
        refine z_pI (pc := 43) hC 6 3 rfl (z_lt hC (by decide)) rfl inX6 tyX6_ok nmX6 (by decide) rfl zm_4_76 rfl rfl rfl dX6_set_43 ?_
        refine z_aload_n (pc := 46) hC 0 dX6_set_46 rfl rfl z_isr_r ?_
        refine z_gI (pc := 47) hC 6 3 (x := 0) rfl (z_lt hC (by decide)) rfl inX6 (by decide) rfl zm_4_76 (z_u_s _ _ _ _) dX6_set_47 ?_
        refine z_if_eq (pc := 50) (tgt := 55) hC dX6_set_50 (by decide) (fun h50 => ?_) (fun h50 => ?_)
        · skip
          refine z_aload_n (pc := 55) hC 0 dX6_set_55 rfl rfl z_isr_r ?_
          refine z_iload_n (pc := 56) hC 1 dX6_set_56 rfl rfl ?_
          refine z_iload_n (pc := 57) hC 2 dX6_set_57 rfl rfl ?_
          refine z_cV (pc := 58) (st := []) hC [.int (nI b), .int (nI k)] (kX6_of C.2.1 g N (z_u I 95 3 0) P J (hm.u (show 96 ≠ 95 by decide)) b k he hk (nI k) rfl) rfl (z_lt hC (by decide)) rfl zkX6_of zm_4_162 ⟨rfl, rfl⟩ rfl rfl hRm ⟨Nat.le_of_ble_eq_true rfl, Nat.le_of_ble_eq_true rfl⟩ (Nat.le_of_ble_eq_true rfl) ⟨Nat.zero_le _, Nat.zero_le _⟩ dX6_set_58 ?_
          refine z_istore (pc := 61) (lv' := [(4, .int (sSt σ b k)), (0, .ref (g.1 95)), (1, .int (nI b)), (2, .int (nI k)), (3, .int v)]) hC dX6_set_61 (by decide) rfl ?_
          refine z_aload_n (pc := 63) hC 1 dX6_set_63 rfl rfl z_isr_r ?_
          refine z_gF (pc := 64) hC 6 0 (t := 96) rfl (z_lt hC (by decide)) rfl inX6 (by decide) rfl zm_4_73 rfl dX6_set_64 ?_
          refine z_bipush (pc := 67) (v := 43) hC dX6_set_67 rfl ?_
          refine z_bipush (pc := 69) (v := 20) hC dX6_set_69 rfl ?_
          refine z_iload_n (pc := 71) hC 2 dX6_set_71 rfl rfl ?_
          refine z_imul (pc := 72) hC dX6_set_72 ?_
          refine z_iadd (pc := 73) hC dX6_set_73 ?_
          refine z_iload_n (pc := 74) hC 3 dX6_set_74 rfl rfl ?_
          refine z_iadd (pc := 75) hC dX6_set_75 ?_
          refine z_iload_n (pc := 76) hC 4 dX6_set_76 rfl rfl ?_
          refine z_isN (pc := 77) hC (43 + 20 * b + k) rfl (z_lt hC (by decide)) (zix b k) (by omega) (by decide) dX6_set_77 ?_
          refine z_iload (pc := 78) hC 0 dX6_set_78 rfl ?_
          exact z_iret (pc := 80) hC hE dX6_set_80 ⟨Or.inr (Or.inr ⟨b, k, rfl, rfl, hb, he, hk, hv, rfl, (z_u_a _ _ (by decide)).trans (z_u_s _ _ _ _), zMd_set (hm.u (by decide)) he hk hv⟩), (zKm.rf.u (by decide)).u (by decide)⟩
        · skip
          exact absurd h50 (by decide)
      · skip
        have g35 := zB_f h35
        obtain hv := of_decide_eq_false g35
        refine z_iconst (pc := 38) (v := 2) hC dX6_set_38 rfl ?_
        refine z_goto (pc := 39) (tgt := 43) hC dX6_set_39 (by decide) ?_
        refine z_pI (pc := 43) hC 6 3 rfl (z_lt hC (by decide)) rfl inX6 tyX6_ok nmX6 (by decide) rfl zm_4_76 rfl rfl rfl dX6_set_43 ?_
        refine z_aload_n (pc := 46) hC 0 dX6_set_46 rfl rfl z_isr_r ?_
        refine z_gI (pc := 47) hC 6 3 (x := 2) rfl (z_lt hC (by decide)) rfl inX6 (by decide) rfl zm_4_76 (z_u_s _ _ _ _) dX6_set_47 ?_
        refine z_if_eq (pc := 50) (tgt := 55) hC dX6_set_50 (by decide) (fun h50 => ?_) (fun h50 => ?_)
        · skip
          exact absurd h50 (by decide)
        · skip
          refine z_iconst (pc := 53) (v := 0) hC dX6_set_53 rfl ?_
          exact z_iret (pc := 54) hC hE dX6_set_54 ⟨Or.inr (Or.inl ⟨g6, fun z => by obtain ⟨k2, e2, _, hv2⟩ := z; rw [← (nI_eq (by omega) (by omega)).mp e2] at hv2; exact hv hv2, z_u_s _ _ _ _, hm.u (by decide)⟩), zKm.rf.u (by decide)⟩
  · skip
    have g6 := zB_f h6
    refine z_iconst (pc := 9) (v := 1) hC dX6_set_9 rfl ?_
    refine z_goto (pc := 10) (tgt := 43) hC dX6_set_10 (by decide) ?_
    refine z_pI (pc := 43) hC 6 3 rfl (z_lt hC (by decide)) rfl inX6 tyX6_ok nmX6 (by decide) rfl zm_4_76 rfl rfl rfl dX6_set_43 ?_
    refine z_aload_n (pc := 46) hC 0 dX6_set_46 rfl rfl z_isr_r ?_
    refine z_gI (pc := 47) hC 6 3 (x := 1) rfl (z_lt hC (by decide)) rfl inX6 (by decide) rfl zm_4_76 (z_u_s _ _ _ _) dX6_set_47 ?_
    refine z_if_eq (pc := 50) (tgt := 55) hC dX6_set_50 (by decide) (fun h50 => ?_) (fun h50 => ?_)
    · skip
      exact absurd h50 (by decide)
    · skip
      refine z_iconst (pc := 53) (v := 0) hC dX6_set_53 rfl ?_
      exact z_iret (pc := 54) hC hE dX6_set_54 ⟨Or.inl ⟨g6, z_u_s _ _ _ _, hm.u (by decide)⟩, zKm.rf.u (by decide)⟩
set_option maxHeartbeats 4000000 in
set_option maxRecDepth 100000 in
theorem kX6_viewport (lx : Launch) (g : zG) (N : Nat) (I : Nat → Nat → Int32) (P : Nat → Nat → Option Nat) (J : Nat → Nat → Int64) {σ : zS} (hm : zMd σ I) (x y : Int32) : z_Ct lx yX6_viewport (zT yX6_viewport cX6_viewport 3 (Option.none : Option FieldType)) ({ frames := 1, cells := 0, slots := 0, locals := 22 } : Room) g N I P J [.ref (g.1 95), .int x, .int y] (fun r I' P' J' => r = none ∧ ((¬ ((0 ≤ x ∧ x ≤ 2000) ∧ 0 ≤ y ∧ y ≤ 2000) ∧ I' 95 3 = 1 ∧ zMd σ I') ∨ ((0 ≤ x ∧ x ≤ 2000) ∧ (0 ≤ y ∧ y ≤ 2000) ∧ I' 95 3 = 0 ∧ zMd (sVp σ x y) I')) ∧ zKm I P J I' P' J') 0 0 := by
  refine z_of (by decide) (Nat.le_of_ble_eq_true rfl) (lv0 := [(0, .ref (g.1 95)), (1, .int x), (2, .int y)]) rfl ?_
  intro C hlx hC hE hRm
  have hC : zX C cX6_viewport 3 RX6 (zT yX6_viewport cX6_viewport 3 (Option.none : Option FieldType)) g N := hC
  refine z_aload_n (pc := 0) hC 0 dX6_viewport_0 rfl rfl z_isr_r ?_
  refine z_iload_n (pc := 1) hC 1 dX6_viewport_1 rfl rfl ?_
  refine z_iconst (pc := 2) (v := 0) hC dX6_viewport_2 rfl ?_
  refine z_sipush (pc := 3) (v := 2000) hC dX6_viewport_3 rfl ?_
  refine z_cS (pc := 6) (st := [.ref (g.1 95)]) hC [.int x, .int 0, .int 2000] (kX6_in C.2.1 g N I P J x 0 2000) zkX6_in zm_4_135 ⟨rfl, rfl⟩ rfl rfl hRm ⟨Nat.le_of_ble_eq_true rfl, Nat.le_of_ble_eq_true rfl⟩ (Nat.le_of_ble_eq_true rfl) ⟨Nat.zero_le _, Nat.zero_le _⟩ dX6_viewport_6 ?_
  refine z_if_eq (pc := 9) (tgt := 27) hC dX6_viewport_9 (by decide) (fun h9 => ?_) (fun h9 => ?_)
  · skip
    have g9 := zB_f h9
    refine z_iconst (pc := 27) (v := 1) hC dX6_viewport_27 rfl ?_
    refine z_pI (pc := 28) hC 6 3 rfl (z_lt hC (by decide)) rfl inX6 tyX6_ok nmX6 (by decide) rfl zm_4_76 rfl rfl rfl dX6_viewport_28 ?_
    refine z_aload_n (pc := 31) hC 0 dX6_viewport_31 rfl rfl z_isr_r ?_
    refine z_gI (pc := 32) hC 6 3 (x := 1) rfl (z_lt hC (by decide)) rfl inX6 (by decide) rfl zm_4_76 (z_u_s _ _ _ _) dX6_viewport_32 ?_
    refine z_if_ne (pc := 35) (tgt := 52) hC dX6_viewport_35 (by decide) (fun h35 => ?_) (fun h35 => ?_)
    · skip
      exact z_vret (pc := 52) hC hE dX6_viewport_52 ⟨rfl, Or.inl ⟨fun z => of_decide_eq_false g9 z.1, z_u_s _ _ _ _, hm.u (by decide)⟩, zKm.rf.u (by decide)⟩
    · skip
      exact absurd h35 (by decide)
  · skip
    have g9 := zB_t h9
    refine z_iload_n (pc := 12) hC 2 dX6_viewport_12 rfl rfl ?_
    refine z_iconst (pc := 13) (v := 0) hC dX6_viewport_13 rfl ?_
    refine z_sipush (pc := 14) (v := 2000) hC dX6_viewport_14 rfl ?_
    refine z_cS (pc := 17) (st := [.ref (g.1 95)]) hC [.int y, .int 0, .int 2000] (kX6_in C.2.1 g N I P J y 0 2000) zkX6_in zm_4_135 ⟨rfl, rfl⟩ rfl rfl hRm ⟨Nat.le_of_ble_eq_true rfl, Nat.le_of_ble_eq_true rfl⟩ (Nat.le_of_ble_eq_true rfl) ⟨Nat.zero_le _, Nat.zero_le _⟩ dX6_viewport_17 ?_
    refine z_if_eq (pc := 20) (tgt := 27) hC dX6_viewport_20 (by decide) (fun h20 => ?_) (fun h20 => ?_)
    · skip
      have g20 := zB_f h20
      refine z_iconst (pc := 27) (v := 1) hC dX6_viewport_27 rfl ?_
      refine z_pI (pc := 28) hC 6 3 rfl (z_lt hC (by decide)) rfl inX6 tyX6_ok nmX6 (by decide) rfl zm_4_76 rfl rfl rfl dX6_viewport_28 ?_
      refine z_aload_n (pc := 31) hC 0 dX6_viewport_31 rfl rfl z_isr_r ?_
      refine z_gI (pc := 32) hC 6 3 (x := 1) rfl (z_lt hC (by decide)) rfl inX6 (by decide) rfl zm_4_76 (z_u_s _ _ _ _) dX6_viewport_32 ?_
      refine z_if_ne (pc := 35) (tgt := 52) hC dX6_viewport_35 (by decide) (fun h35 => ?_) (fun h35 => ?_)
      · skip
        exact z_vret (pc := 52) hC hE dX6_viewport_52 ⟨rfl, Or.inl ⟨fun z => of_decide_eq_false g20 z.2, z_u_s _ _ _ _, hm.u (by decide)⟩, zKm.rf.u (by decide)⟩
      · skip
        exact absurd h35 (by decide)
    · skip
      have g20 := zB_t h20
      refine z_iconst (pc := 23) (v := 0) hC dX6_viewport_23 rfl ?_
      refine z_goto (pc := 24) (tgt := 28) hC dX6_viewport_24 (by decide) ?_
      refine z_pI (pc := 28) hC 6 3 rfl (z_lt hC (by decide)) rfl inX6 tyX6_ok nmX6 (by decide) rfl zm_4_76 rfl rfl rfl dX6_viewport_28 ?_
      refine z_aload_n (pc := 31) hC 0 dX6_viewport_31 rfl rfl z_isr_r ?_
      refine z_gI (pc := 32) hC 6 3 (x := 0) rfl (z_lt hC (by decide)) rfl inX6 (by decide) rfl zm_4_76 (z_u_s _ _ _ _) dX6_viewport_32 ?_
      refine z_if_ne (pc := 35) (tgt := 52) hC dX6_viewport_35 (by decide) (fun h35 => ?_) (fun h35 => ?_)
      · skip
        exact absurd h35 (by decide)
      · skip
        refine z_aload_n (pc := 38) hC 0 dX6_viewport_38 rfl rfl z_isr_r ?_
        refine z_gF (pc := 39) hC 6 0 (t := 96) rfl (z_lt hC (by decide)) rfl inX6 (by decide) rfl zm_4_73 rfl dX6_viewport_39 ?_
        refine z_iconst (pc := 42) (v := 1) hC dX6_viewport_42 rfl ?_
        refine z_iload_n (pc := 43) hC 1 dX6_viewport_43 rfl rfl ?_
        refine z_isN (pc := 44) hC 1 rfl (z_lt hC (by decide)) rfl (by decide) (by decide) dX6_viewport_44 ?_
        refine z_aload_n (pc := 45) hC 0 dX6_viewport_45 rfl rfl z_isr_r ?_
        refine z_gF (pc := 46) hC 6 0 (t := 96) rfl (z_lt hC (by decide)) rfl inX6 (by decide) rfl zm_4_73 rfl dX6_viewport_46 ?_
        refine z_iconst (pc := 49) (v := 2) hC dX6_viewport_49 rfl ?_
        refine z_iload_n (pc := 50) hC 2 dX6_viewport_50 rfl rfl ?_
        refine z_isN (pc := 51) hC 2 rfl (z_lt hC (by decide)) rfl (by decide) (by decide) dX6_viewport_51 ?_
        exact z_vret (pc := 52) hC hE dX6_viewport_52 ⟨rfl, Or.inr ⟨of_decide_eq_true g9, of_decide_eq_true g20, (z_u_a _ _ (by decide)).trans ((z_u_a _ _ (by decide)).trans (z_u_s _ _ _ _)), zMd_vp (hm.u (by decide)) (of_decide_eq_true g9) (of_decide_eq_true g20)⟩, ((zKm.rf.u (by decide)).u (by decide)).u (by decide)⟩
theorem zkn_le1 {σ : zS} (hw : sWF σ) {b : Nat} : (nI (kn σ b) - 1).toInt = (kn σ b : Int) - 1 := by
  have hn := kn_le hw b
  rw [Int32.toInt_sub, nI_toInt (by omega)]
  have e1 : (1 : Int32).toInt = 1 := rfl
  rw [e1]
  apply Int.bmod_eq_of_le <;> omega
theorem zkn_nI {σ : zS} (hw : sWF σ) {b : Nat} {i : Int32} (h0 : 0 ≤ i) (h1 : i ≤ nI (kn σ b) - 1) : ∃ k, k < kn σ b ∧ i = nI k := by
  have hn := kn_le hw b
  refine zi_nI (by omega) h0 ?_
  rw [zi_le, zkn_le1 hw] at h1
  rw [zi_lt, nI_toInt (by omega)]
  omega
theorem zkn_out {σ : zS} (hw : sWF σ) {b : Nat} {i : Int32} (h : ¬ (0 ≤ i ∧ i ≤ nI (kn σ b) - 1)) : ¬ (0 ≤ i ∧ i < nI (kn σ b)) := fun z => h ⟨z.1, by
  have hn := kn_le hw b
  have z2 := (zi_lt _ _).mp z.2
  rw [nI_toInt (by omega)] at z2
  rw [zi_le, zkn_le1 hw]
  omega⟩
set_option maxHeartbeats 4000000 in
set_option maxRecDepth 100000 in
theorem kX6_child (lx : Launch) (g : zG) (N : Nat) (I : Nat → Nat → Int32) (P : Nat → Nat → Option Nat) (J : Nat → Nat → Int64) {σ : zS} (hm : zMd σ I) (x i : Int32) : z_Ct lx yX6_child (zT yX6_child cX6_child 3 (Option.some FieldType.int)) ({ frames := 4, cells := 0, slots := 0, locals := 88 } : Room) g N I P J [.ref (g.1 95), .int x, .int i] (fun v I' P' J' => ((zbx σ x = false ∧ I' 95 3 = 1) ∨ ∃ b, x = nI b ∧ b < 40 ∧ sEx σ b = true ∧ v = some (.int (sChl σ b i)) ∧ I' 95 3 = 0) ∧ zMd σ I' ∧ zKm I P J I' P' J') 0 0 := by
  refine z_of (by decide) (Nat.le_of_ble_eq_true rfl) (lv0 := [(0, .ref (g.1 95)), (1, .int x), (2, .int i)]) rfl ?_
  intro C hlx hC hE hRm
  have hC : zX C cX6_child 3 RX6 (zT yX6_child cX6_child 3 (Option.some FieldType.int)) g N := hC
  refine z_aload_n (pc := 0) hC 0 dX6_child_0 rfl rfl z_isr_r ?_
  refine z_aload_n (pc := 1) hC 0 dX6_child_1 rfl rfl z_isr_r ?_
  refine z_iload_n (pc := 2) hC 1 dX6_child_2 rfl rfl ?_
  refine z_cV (pc := 3) (st := [.ref (g.1 95)]) hC [.int x] (kX6_isBox C.2.1 g N I P J hm x) rfl (z_lt hC (by decide)) rfl zkX6_isBox zm_4_131 ⟨rfl, rfl⟩ rfl rfl hRm ⟨Nat.le_of_ble_eq_true rfl, Nat.le_of_ble_eq_true rfl⟩ (Nat.le_of_ble_eq_true rfl) ⟨Nat.zero_le _, Nat.zero_le _⟩ dX6_child_3 ?_
  refine z_if_eq (pc := 6) (tgt := 13) hC dX6_child_6 (by decide) (fun h6 => ?_) (fun h6 => ?_)
  · skip
    have g6 := zB_f h6
    refine z_iconst (pc := 13) (v := 1) hC dX6_child_13 rfl ?_
    refine z_pI (pc := 14) hC 6 3 rfl (z_lt hC (by decide)) rfl inX6 tyX6_ok nmX6 (by decide) rfl zm_4_76 rfl rfl rfl dX6_child_14 ?_
    refine z_aload_n (pc := 17) hC 0 dX6_child_17 rfl rfl z_isr_r ?_
    refine z_gI (pc := 18) hC 6 3 (x := 1) rfl (z_lt hC (by decide)) rfl inX6 (by decide) rfl zm_4_76 (z_u_s _ _ _ _) dX6_child_18 ?_
    refine z_if_eq (pc := 21) (tgt := 26) hC dX6_child_21 (by decide) (fun h21 => ?_) (fun h21 => ?_)
    · skip
      exact absurd h21 (by decide)
    · skip
      refine z_iconst (pc := 24) (v := 0) hC dX6_child_24 rfl ?_
      exact z_iret (pc := 25) hC hE dX6_child_25 ⟨Or.inl ⟨g6, z_u_s _ _ _ _⟩, hm.u (by decide), zKm.rf.u (by decide)⟩
  · skip
    have g6 := zB_t h6
    obtain ⟨b, rfl, hb, he⟩ := zbx_iff.mp g6
    refine z_iconst (pc := 9) (v := 0) hC dX6_child_9 rfl ?_
    refine z_goto (pc := 10) (tgt := 14) hC dX6_child_10 (by decide) ?_
    refine z_pI (pc := 14) hC 6 3 rfl (z_lt hC (by decide)) rfl inX6 tyX6_ok nmX6 (by decide) rfl zm_4_76 rfl rfl rfl dX6_child_14 ?_
    refine z_aload_n (pc := 17) hC 0 dX6_child_17 rfl rfl z_isr_r ?_
    refine z_gI (pc := 18) hC 6 3 (x := 0) rfl (z_lt hC (by decide)) rfl inX6 (by decide) rfl zm_4_76 (z_u_s _ _ _ _) dX6_child_18 ?_
    refine z_if_eq (pc := 21) (tgt := 26) hC dX6_child_21 (by decide) (fun h21 => ?_) (fun h21 => ?_)
    · skip
      refine z_aload_n (pc := 26) hC 0 dX6_child_26 rfl rfl z_isr_r ?_
      refine z_iload_n (pc := 27) hC 1 dX6_child_27 rfl rfl ?_
      refine z_callV (pc := 28) (st := []) hC [.int (nI b)] ((kX6_layKids C.2.1 g N (z_u I 95 3 0) P J (hm.u (show 96 ≠ 95 by decide)) b he)) rfl (z_lt hC (by decide)) rfl zkX6_layKids zm_4_154 ⟨rfl, rfl⟩ rfl rfl hRm ⟨Nat.le_of_ble_eq_true rfl, Nat.le_of_ble_eq_true rfl⟩ (Nat.le_of_ble_eq_true rfl) ⟨Nat.zero_le _, Nat.zero_le _⟩ dX6_child_28 ?_
      intro v I2 P2 J2 hq
      obtain ⟨hv, hP2, hJ2, hfr, hkq⟩ := hq
      subst hv
      rw [hP2, hJ2]
      have hm2 := (hm.u (k := 3) (v := 0) (show 96 ≠ 95 by decide)).eq (fun k => hfr 96 k (by decide) (by omega))
      have h3 : I2 95 3 = 0 := (hfr 95 3 (by decide) (by omega)).trans (z_u_s _ _ _ _)
      have hkm : zKm I P J I2 P J := ⟨rfl, fun _ _ _ => rfl, fun q j hq => (hfr q j (by omega) (by omega)).trans (z_u_a _ _ (by omega))⟩
      show zJ C g N 3 0 0 I2 P J 31 [(0, .ref (g.1 95)), (1, .int (nI b)), (2, .int i)] []
      refine z_iload_n (pc := 31) hC 2 dX6_child_31 rfl rfl ?_
      refine z_iconst (pc := 32) (v := (-1)) hC dX6_child_32 rfl ?_
      refine z_icmp_ne (pc := 33) (tgt := 43) hC dX6_child_33 (by decide) (fun h33 => ?_) (fun h33 => ?_)
      · skip
        refine z_iload_n (pc := 43) hC 2 dX6_child_43 rfl rfl ?_
        refine z_iconst (pc := 44) (v := 0) hC dX6_child_44 rfl ?_
        refine z_aload_n (pc := 45) hC 0 dX6_child_45 rfl rfl z_isr_r ?_
        refine z_gI (pc := 46) hC 6 5 (x := nI (kn σ b)) rfl (z_lt hC (by decide)) rfl inX6 (by decide) rfl zm_4_78 hkq.1 dX6_child_46 ?_
        refine z_iconst (pc := 49) (v := 1) hC dX6_child_49 rfl ?_
        refine z_isub (pc := 50) hC dX6_child_50 ?_
        refine z_cS (pc := 51) (st := []) hC [.int i, .int 0, .int ((nI (kn σ b)) - 1)] (kX6_in C.2.1 g N I2 P J i 0 ((nI (kn σ b)) - 1)) zkX6_in zm_4_135 ⟨rfl, rfl⟩ rfl rfl hRm ⟨Nat.le_of_ble_eq_true rfl, Nat.le_of_ble_eq_true rfl⟩ (Nat.le_of_ble_eq_true rfl) ⟨Nat.zero_le _, Nat.zero_le _⟩ dX6_child_51 ?_
        refine z_if_eq (pc := 54) (tgt := 66) hC dX6_child_54 (by decide) (fun h54 => ?_) (fun h54 => ?_)
        · skip
          have g54 := zB_f h54
          refine z_iconst (pc := 66) (v := (-1)) hC dX6_child_66 rfl ?_
          exact z_iret (pc := 67) hC hE dX6_child_67 ⟨Or.inr ⟨b, rfl, hb, he, by unfold sChl; rw [if_neg h33, if_neg (zkn_out hm.1 (of_decide_eq_false g54))], h3⟩, hm2, hkm⟩
        · skip
          have g54 := zB_t h54
          obtain ⟨q0, q1⟩ := of_decide_eq_true g54
          obtain ⟨k, hk, rfl⟩ := zkn_nI hm.1 q0 q1
          refine z_aload_n (pc := 57) hC 0 dX6_child_57 rfl rfl z_isr_r ?_
          refine z_gF (pc := 58) hC 6 4 (t := 99) rfl (z_lt hC (by decide)) rfl inX6 (by decide) rfl zm_4_77 rfl dX6_child_58 ?_
          refine z_iload_n (pc := 61) hC 2 dX6_child_61 rfl rfl ?_
          refine z_iaN (pc := 62) hC k (x := nI (kd σ b k)) rfl (z_lt hC (by decide)) rfl (by have := kn_le hm.1 b; omega) (by decide) (hkq.2 k hk) dX6_child_62 ?_
          refine z_goto (pc := 63) (tgt := 67) hC dX6_child_63 (by decide) ?_
          exact z_iret (pc := 67) hC hE dX6_child_67 ⟨Or.inr ⟨b, rfl, hb, he, by rw [sChl_k hm.1 hk rfl], h3⟩, hm2, hkm⟩
      · skip
        refine z_aload_n (pc := 36) hC 0 dX6_child_36 rfl rfl z_isr_r ?_
        refine z_gI (pc := 37) hC 6 5 (x := nI (kn σ b)) rfl (z_lt hC (by decide)) rfl inX6 (by decide) rfl zm_4_78 hkq.1 dX6_child_37 ?_
        refine z_goto (pc := 40) (tgt := 67) hC dX6_child_40 (by decide) ?_
        exact z_iret (pc := 67) hC hE dX6_child_67 ⟨Or.inr ⟨b, rfl, hb, he, by unfold sChl; rw [if_pos h33], h3⟩, hm2, hkm⟩
    · skip
      exact absurd h21 (by decide)
end ZM3
