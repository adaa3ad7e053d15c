section ZM22
/-- heights and places of the kids of the boxes ahead of n -/
def zpd (σ : zS) (n : Nat) (I : Nat → Nat → Int32) (J : Nat → Nat → Int64) (Ir : Nat → Nat → Int32) (Jr : Nat → Nat → Int64) : Prop := (∀ q j, q ≠ 99 → q ≠ 103 → q ≠ 106 → q ≠ 108 → ¬ (q = 95 ∧ j = 5) → ¬ (q = 102 ∧ j % 2 = 1) → Ir q j = I q j) ∧ (∀ q j, q ≠ 107 → Jr q j = J q j) ∧ ∀ b, sSh σ b = true → (b = 0 ∨ sPa σ b < n) → Ir 102 (2 * b + 1) = sHT σ b ∧ Ir 103 (2 * b + 0) = sX σ b ∧ Ir 103 (2 * b + 1) = sY σ b
theorem zpd_0 {σ : zS} {I : Nat → Nat → Int32} {J : Nat → Nat → Int64} : zpd σ 0 I J (z_u (z_u (z_u I 102 1 (sVh σ)) 103 0 0) 103 1 0) J := ⟨fun q j _ k2 _ _ _ k6 => (z_u_a _ _ k2).trans ((z_u_a _ _ k2).trans (z_u_r2 _ (fun y => k6 ⟨y.1, by rw [y.2]⟩))), fun _ _ _ => rfl, fun b _ h => by
  rcases h with e | e
  · rw [e]
    exact ⟨(z_u_a _ _ (by decide)).trans ((z_u_a _ _ (by decide)).trans (z_u_s I 102 1 (sVh σ))), (z_u_b _ _ (by decide)).trans (z_u_s _ 103 0 0), z_u_s _ 103 1 0⟩
  · exact absurd e (Nat.not_lt_zero _)⟩
theorem zpd_n {σ : zS} (hw : sWF σ) {n : Nat} {I Ir : Nat → Nat → Int32} {J Jr : Nat → Nat → Int64} (h : zpd σ n I J Ir Jr) (hs : sSh σ n = false) : zpd σ (n + 1) I J Ir Jr := by
  obtain ⟨f1, f2, f3⟩ := h
  refine ⟨f1, f2, fun b hb h => f3 b hb ?_⟩
  by_cases h0 : b = 0
  · exact Or.inl h0
  · refine Or.inr ?_
    have q := (sSh_kid hw hb h0).2
    have : sPa σ b ≠ n := fun e => by rw [e, hs] at q; cases q
    omega
theorem zpd_s {σ : zS} (hw : sWF σ) {n : Nat} {I Ir I1 I3 : Nat → Nat → Int32} {J Jr J3 : Nat → Nat → Int64} (h : zpd σ n I J Ir Jr) (hf : ∀ q j, q ≠ 99 → ¬ (q = 95 ∧ j = 5) → I1 q j = Ir q j) (hk : zpk σ n I1 Jr I3 J3) : zpd σ (n + 1) I J I3 J3 := by
  obtain ⟨f1, f2, f3⟩ := h
  obtain ⟨g1, g2, g3⟩ := hk
  have n0 : 0 ∉ sKids σ n := fun y => (sKids_lt hw y).2.2.2.2 rfl
  have k2 : ∀ b, b ∉ sKids σ n → I3 102 (2 * b + 1) = Ir 102 (2 * b + 1) := fun b hb => (g1 102 _ (by decide) (by decide) (fun y => by
    obtain ⟨_, c, y1, y2⟩ := y
    exact hb (by rw [show b = c by omega]; exact y1)) (fun y => absurd y.1 (by decide))).trans (hf 102 _ (by decide) (by omega))
  have k3 : ∀ b, b ∉ sKids σ n → I3 103 (2 * b + 0) = Ir 103 (2 * b + 0) ∧ I3 103 (2 * b + 1) = Ir 103 (2 * b + 1) := fun b hb => ⟨(g1 103 _ (by decide) (by decide) (fun y => absurd y.1 (by decide)) (fun y => by
    obtain ⟨_, c, y1, y2⟩ := y
    exact hb (by rw [show b = c by omega]; exact y1))).trans (hf 103 _ (by decide) (by omega)), (g1 103 _ (by decide) (by decide) (fun y => absurd y.1 (by decide)) (fun y => by
    obtain ⟨_, c, y1, y2⟩ := y
    exact hb (by rw [show b = c by omega]; exact y1))).trans (hf 103 _ (by decide) (by omega))⟩
  refine ⟨fun q j h1 h2 h3 h4 h5 h6 => ?_, fun q j hq => (g2 q j hq).trans (f2 q j hq), fun b hb h => ?_⟩
  · rw [g1 q j h3 h4 (fun y => h6 ⟨y.1, by obtain ⟨_, c, _, y2⟩ := y; omega⟩) (fun y => h2 y.1), hf q j h1 h5]
    exact f1 q j h1 h2 h3 h4 h5 h6
  · by_cases h0 : b = 0
    · have nb : b ∉ sKids σ n := by rw [h0]; exact n0
      rw [k2 b nb, (k3 b nb).1, (k3 b nb).2]
      exact f3 b hb (Or.inl h0)
    · have q := (sSh_kid hw hb h0).1
      by_cases e : sPa σ b = n
      · rw [e] at q
        obtain ⟨i, hi, e2⟩ := kd_of q
        rw [← e2]
        exact g3 i hi
      · have nb : b ∉ sKids σ n := fun y => e (sKids_lt hw y).2.2.2.1
        rw [k2 b nb, (k3 b nb).1, (k3 b nb).2]
        exact f3 b hb (Or.inr (by omega))
theorem zpk_0 {σ : zS} {p : Nat} {I : Nat → Nat → Int32} {J : Nat → Nat → Int64} (h : kn σ p = 0) : zpk σ p I J I J := ⟨fun _ _ _ _ _ _ => rfl, fun _ _ _ => rfl, fun i hi => by omega⟩
set_option maxHeartbeats 4000000 in
set_option maxRecDepth 100000 in
theorem kX6_findPlaces (lx : Launch) (g : zG) (N : Nat) (I : Nat → Nat → Int32) (P : Nat → Nat → Option Nat) (J : Nat → Nat → Int64) {σ : zS} (hm : zMd σ I) (hsh : ∀ c, c < sGv σ → I 100 c = zB (sSh σ c)) (hWD : ∀ b, sSh σ b = true → I 102 (2 * b + 0) = sWD σ b) (hnh : ∀ b, sSh σ b = true → I 101 (2 * b + 1) = sNH σ b) (hlm : ∀ b, sSh σ b = true → I 105 b = sLC σ (sNW σ) b (sWD σ b)) (hla : ∀ p, sSh σ p = true → ∀ k, k < kn σ p → I 104 (kd σ p k) = nI (sLn σ (sNW σ) p (sWD σ p) k)) : z_Ct lx yX6_findPlaces (zT yX6_findPlaces cX6_findPlaces 2 (Option.none : Option FieldType)) ({ frames := 6, cells := 0, slots := 0, locals := 151 } : Room) g N I P J [.ref (g.1 95)] (fun v I' P' J' => v = none ∧ P' = P ∧ zpd σ (sGv σ) I J I' J') 0 0 := by
  refine z_of (by decide) (Nat.le_of_ble_eq_true rfl) (lv0 := [(0, .ref (g.1 95))]) rfl ?_
  intro C hlx hC hE hRm
  have hC : zX C cX6_findPlaces 2 RX6 (zT yX6_findPlaces cX6_findPlaces 2 (Option.none : Option FieldType)) g N := hC
  refine z_aload_n (pc := 0) hC 0 dX6_findPlaces_0 rfl rfl z_isr_r ?_
  refine z_gF (pc := 1) hC 6 8 (t := 102) rfl (z_lt hC (by decide)) rfl inX6 (by decide) rfl zm_4_81 rfl dX6_findPlaces_1 ?_
  refine z_iconst (pc := 4) (v := 1) hC dX6_findPlaces_4 rfl ?_
  refine z_aload_n (pc := 5) hC 0 dX6_findPlaces_5 rfl rfl z_isr_r ?_
  refine z_gF (pc := 6) hC 6 0 (t := 96) rfl (z_lt hC (by decide)) rfl inX6 (by decide) rfl zm_4_73 rfl dX6_findPlaces_6 ?_
  refine z_iconst (pc := 9) (v := 2) hC dX6_findPlaces_9 rfl ?_
  refine z_iaN (pc := 10) hC 2 (x := sVh σ) rfl (z_lt hC (by decide)) rfl (by decide) (by decide) hm.2.2.2.1 dX6_findPlaces_10 ?_
  refine z_isN (pc := 11) hC 1 rfl (z_lt hC (by decide)) rfl (by decide) (by decide) dX6_findPlaces_11 ?_
  refine z_aload_n (pc := 12) hC 0 dX6_findPlaces_12 rfl rfl z_isr_r ?_
  refine z_gF (pc := 13) hC 6 9 (t := 103) rfl (z_lt hC (by decide)) rfl inX6 (by decide) rfl zm_4_82 rfl dX6_findPlaces_13 ?_
  refine z_iconst (pc := 16) (v := 0) hC dX6_findPlaces_16 rfl ?_
  refine z_iconst (pc := 17) (v := 0) hC dX6_findPlaces_17 rfl ?_
  refine z_isN (pc := 18) hC 0 rfl (z_lt hC (by decide)) rfl (by decide) (by decide) dX6_findPlaces_18 ?_
  refine z_aload_n (pc := 19) hC 0 dX6_findPlaces_19 rfl rfl z_isr_r ?_
  refine z_gF (pc := 20) hC 6 9 (t := 103) rfl (z_lt hC (by decide)) rfl inX6 (by decide) rfl zm_4_82 rfl dX6_findPlaces_20 ?_
  refine z_iconst (pc := 23) (v := 1) hC dX6_findPlaces_23 rfl ?_
  refine z_iconst (pc := 24) (v := 0) hC dX6_findPlaces_24 rfl ?_
  refine z_isN (pc := 25) hC 1 rfl (z_lt hC (by decide)) rfl (by decide) (by decide) dX6_findPlaces_25 ?_
  refine z_iconst (pc := 26) (v := 0) hC dX6_findPlaces_26 rfl ?_
  refine z_istore_n (pc := 27) (lv' := [(1, .int 0), (0, .ref (g.1 95))]) hC dX6_findPlaces_27 rfl (by decide) rfl ?_
  have L28 : ∀ (zf : Nat) (n : Nat) (Ir : Nat → Nat → Int32) (Jr : Nat → Nat → Int64) (hnn : n ≤ sGv σ) (hz : zpd σ n I J Ir Jr), sGv σ - n < zf → zJ C g N 2 0 0 Ir P Jr 28 [(1, .int (nI n)), (0, .ref (g.1 95))] [] := by
    intro zf
    induction zf with
    | zero =>
      intro n Ir Jr hnn hz hn2
      exact absurd hn2 (Nat.not_lt_zero _)
    | succ zf ih =>
      intro n Ir Jr hnn hz hn2
      have hmr := hm.eq (fun k => (hz.1 96 k (by decide) (by decide) (by decide) (by decide) (by omega) (by omega)))
      refine z_iload_n (pc := 28) hC 0 dX6_findPlaces_28 rfl rfl ?_
      refine z_aload_n (pc := 29) hC 1 dX6_findPlaces_29 rfl rfl z_isr_r ?_
      refine z_gF (pc := 30) hC 6 0 (t := 96) rfl (z_lt hC (by decide)) rfl inX6 (by decide) rfl zm_4_73 rfl dX6_findPlaces_30 ?_
      refine z_iconst (pc := 33) (v := 0) hC dX6_findPlaces_33 rfl ?_
      refine z_iaN (pc := 34) hC 0 (x := nI (sGv σ)) rfl (z_lt hC (by decide)) rfl (by decide) (by decide) hmr.2.1 dX6_findPlaces_34 ?_
      refine z_icmp_ge (pc := 35) (tgt := 88) hC dX6_findPlaces_35 (by decide) (fun h35 => ?_) (fun h35 => ?_)
      · skip
        have g35 := Int32.not_lt.mpr h35
        have hge := zc_ge h35 (by have := hm.gv; omega) (by have := hm.gv; omega)
        have en : n = sGv σ := by omega
        exact z_vret (pc := 88) hC hE dX6_findPlaces_88 ⟨rfl, rfl, by rw [← en]; exact hz⟩
      · skip
        have g35 := Int32.not_le.mp h35
        have hng := zc_lt h35 (by have := hm.gv; omega) (by have := hm.gv; omega)
        have hn40 : n < 40 := by have := hm.gv; omega
        refine z_aload_n (pc := 38) hC 1 dX6_findPlaces_38 rfl rfl z_isr_r ?_
        refine z_gF (pc := 39) hC 6 6 (t := 100) rfl (z_lt hC (by decide)) rfl inX6 (by decide) rfl zm_4_79 rfl dX6_findPlaces_39 ?_
        refine z_iload_n (pc := 42) hC 0 dX6_findPlaces_42 rfl rfl ?_
        refine z_zaN (pc := 43) hC n (x := zB (sSh σ n)) rfl (z_lt hC (by decide)) rfl hn40 (by decide) ((hz.1 100 n (by decide) (by decide) (by decide) (by decide) (by omega) (by omega)).trans (hsh n hng)) dX6_findPlaces_43 ?_
        refine z_if_eq (pc := 44) (tgt := 82) hC dX6_findPlaces_44 (by decide) (fun h44 => ?_) (fun h44 => ?_)
        · skip
          have g44 := zB_f h44
          refine z_iinc (pc := 82) (v := nI (n + 1)) (lv' := [(1, .int (nI (n + 1))), (0, .ref (g.1 95))]) hC 0 dX6_findPlaces_82 rfl (nI_1 n) (by decide) rfl ?_
          refine z_goto (pc := 85) (tgt := 28) hC dX6_findPlaces_85 (by decide) ?_
          exact ih (n + 1) Ir Jr (by omega) (zpd_n hm.1 hz g44) (by omega)
        · skip
          have g44 := zB_t h44
          refine z_aload_n (pc := 47) hC 1 dX6_findPlaces_47 rfl rfl z_isr_r ?_
          refine z_iload_n (pc := 48) hC 0 dX6_findPlaces_48 rfl rfl ?_
          refine z_callV (pc := 49) (st := []) hC [.int (nI n)] ((kX6_layKids C.2.1 g N Ir P Jr hmr n (sSh_ex hm.1 g44).2)) rfl (z_lt hC (by decide)) rfl zkX6_layKids zm_4_154 ⟨rfl, rfl⟩ rfl rfl hRm ⟨Nat.le_of_ble_eq_true rfl, Nat.le_of_ble_eq_true rfl⟩ (Nat.le_of_ble_eq_true rfl) ⟨Nat.zero_le _, Nat.zero_le _⟩ dX6_findPlaces_49 ?_
          intro v I1 P1 J1 hq
          obtain ⟨hv, hP1, hJ1, hfr, hkq⟩ := hq
          subst hv
          rw [hP1, hJ1]
          have hm1 := hmr.eq (fun k => (hfr 96 k (by decide) (by omega)))
          have hpv := hz.2.2 n g44 (by by_cases h0 : n = 0; exact Or.inl h0; exact Or.inr (sPa_lt hm.1 (sSh_ex hm.1 g44).2 h0).1)
          have hW1 : I1 102 (2 * n + 0) = sWD σ n := (hfr 102 _ (by decide) (by omega)).trans ((hz.1 102 _ (by decide) (by decide) (by decide) (by decide) (by omega) (by omega)).trans (hWD n g44))
          have hH1 : I1 102 (2 * n + 1) = sHT σ n := (hfr 102 _ (by decide) (by omega)).trans hpv.1
          have hX1 : I1 103 (2 * n + 0) = sX σ n := (hfr 103 _ (by decide) (by omega)).trans hpv.2.1
          have hY1 : I1 103 (2 * n + 1) = sY σ n := (hfr 103 _ (by decide) (by omega)).trans hpv.2.2
          have hkw1 : ∀ k, k ∈ sKids σ n → I1 102 (2 * k + 0) = sWD σ k := fun k hkk => (hfr 102 _ (by decide) (by omega)).trans ((hz.1 102 _ (by decide) (by decide) (by decide) (by decide) (by omega) (by omega)).trans (hWD k (sKids_sh hm.1 g44 hkk)))
          have hkh1 : ∀ k, k ∈ sKids σ n → I1 101 (2 * k + 1) = sNH σ k := fun k hkk => (hfr 101 _ (by decide) (by omega)).trans ((hz.1 101 _ (by decide) (by decide) (by decide) (by decide) (by omega) (by omega)).trans (hnh k (sKids_sh hm.1 g44 hkk)))
          have hla1 : ∀ k, k < kn σ n → I1 104 (kd σ n k) = nI (sLn σ (sNW σ) n (sWD σ n) k) := fun k hkk => (hfr 104 _ (by decide) (by omega)).trans ((hz.1 104 _ (by decide) (by decide) (by decide) (by decide) (by omega) (by omega)).trans (hla n g44 k hkk))
          have hlm1 : I1 105 n = sLC σ (sNW σ) n (sWD σ n) := (hfr 105 _ (by decide) (by omega)).trans ((hz.1 105 _ (by decide) (by decide) (by decide) (by decide) (by omega) (by omega)).trans (hlm n g44))
          show zJ C g N 2 0 0 I1 P Jr 52 [(1, .int (nI n)), (0, .ref (g.1 95))] []
          refine z_aload_n (pc := 52) hC 1 dX6_findPlaces_52 rfl rfl z_isr_r ?_
          refine z_iload_n (pc := 53) hC 0 dX6_findPlaces_53 rfl rfl ?_
          refine z_iconst (pc := 54) (v := 0) hC dX6_findPlaces_54 rfl ?_
          refine z_cV (pc := 55) (st := []) hC [.int (nI n), .int 0] (kX6_of C.2.1 g N I1 P Jr hm1 n 0 (sSh_ex hm.1 g44).2 (by decide) 0 rfl) rfl (z_lt hC (by decide)) rfl zkX6_of zm_4_162 ⟨rfl, rfl⟩ rfl rfl hRm ⟨Nat.le_of_ble_eq_true rfl, Nat.le_of_ble_eq_true rfl⟩ (Nat.le_of_ble_eq_true rfl) ⟨Nat.zero_le _, Nat.zero_le _⟩ dX6_findPlaces_55 ?_
          refine z_iconst (pc := 58) (v := 1) hC dX6_findPlaces_58 rfl ?_
          refine z_icmp_ne (pc := 59) (tgt := 70) hC dX6_findPlaces_59 (by decide) (fun h59 => ?_) (fun h59 => ?_)
          · skip
            refine z_aload_n (pc := 70) hC 1 dX6_findPlaces_70 rfl rfl z_isr_r ?_
            refine z_gI (pc := 71) hC 6 5 (x := nI (kn σ n)) rfl (z_lt hC (by decide)) rfl inX6 (by decide) rfl zm_4_78 hkq.1 dX6_findPlaces_71 ?_
            refine z_if_le (pc := 74) (tgt := 82) hC dX6_findPlaces_74 (by decide) (fun h74 => ?_) (fun h74 => ?_)
            · skip
              have g74 := Int32.not_lt.mpr h74
              have hk0 : kn σ n = 0 := Nat.le_zero.mp (zc_ge (i := 0) h74 (by decide) (by have := kn_le hm.1 n; omega))
              refine z_iinc (pc := 82) (v := nI (n + 1)) (lv' := [(1, .int (nI (n + 1))), (0, .ref (g.1 95))]) hC 0 dX6_findPlaces_82 rfl (nI_1 n) (by decide) rfl ?_
              refine z_goto (pc := 85) (tgt := 28) hC dX6_findPlaces_85 (by decide) ?_
              exact ih (n + 1) I1 Jr (by omega) (zpd_s hm.1 hz hfr (zpk_0 hk0)) (by omega)
            · skip
              have g74 := Int32.not_le.mp h74
              have hkp : 0 < kn σ n := zc_lt (i := 0) h74 (by decide) (by have := kn_le hm.1 n; omega)
              refine z_aload_n (pc := 77) hC 1 dX6_findPlaces_77 rfl rfl z_isr_r ?_
              refine z_iload_n (pc := 78) hC 0 dX6_findPlaces_78 rfl rfl ?_
              refine z_callV (pc := 79) (st := []) hC [.int (nI n)] (kX6_placeRow C.2.1 g N I1 P Jr hm1 n (sSh_ex hm.1 g44).2 hkq g44 hW1 hH1 hX1 hY1 hkw1 hkh1 hla1 (hlm1.trans (by unfold sLC; rw [if_pos (sKids_con hm.1 (kd_mem hkp))])) h59) rfl (z_lt hC (by decide)) rfl zkX6_placeRow zm_5_86 ⟨rfl, rfl⟩ rfl rfl hRm ⟨Nat.le_of_ble_eq_true rfl, Nat.le_of_ble_eq_true rfl⟩ (Nat.le_of_ble_eq_true rfl) ⟨Nat.zero_le _, Nat.zero_le _⟩ dX6_findPlaces_79 ?_
              intro v I3 P3 J3 hq
              obtain ⟨hv, hP3, hzk⟩ := hq
              subst hv
              rw [hP3]
              show zJ C g N 2 0 0 I3 P J3 82 [(1, .int (nI n)), (0, .ref (g.1 95))] []
              refine z_iinc (pc := 82) (v := nI (n + 1)) (lv' := [(1, .int (nI (n + 1))), (0, .ref (g.1 95))]) hC 0 dX6_findPlaces_82 rfl (nI_1 n) (by decide) rfl ?_
              refine z_goto (pc := 85) (tgt := 28) hC dX6_findPlaces_85 (by decide) ?_
              exact ih (n + 1) I3 J3 (by omega) (zpd_s hm.1 hz hfr hzk) (by omega)
          · skip
            refine z_aload_n (pc := 62) hC 1 dX6_findPlaces_62 rfl rfl z_isr_r ?_
            refine z_iload_n (pc := 63) hC 0 dX6_findPlaces_63 rfl rfl ?_
            refine z_callV (pc := 64) (st := []) hC [.int (nI n)] (kX6_placeColumn C.2.1 g N I1 P Jr hm1 n (sSh_ex hm.1 g44).2 hkq g44 hW1 hH1 hX1 hY1 hkw1 hkh1 h59) rfl (z_lt hC (by decide)) rfl zkX6_placeColumn zm_5_71 ⟨rfl, rfl⟩ rfl rfl hRm ⟨Nat.le_of_ble_eq_true rfl, Nat.le_of_ble_eq_true rfl⟩ (Nat.le_of_ble_eq_true rfl) ⟨Nat.zero_le _, Nat.zero_le _⟩ dX6_findPlaces_64 ?_
            intro v I3 P3 J3 hq
            obtain ⟨hv, hP3, hzk⟩ := hq
            subst hv
            rw [hP3]
            show zJ C g N 2 0 0 I3 P J3 67 [(1, .int (nI n)), (0, .ref (g.1 95))] []
            refine z_goto (pc := 67) (tgt := 82) hC dX6_findPlaces_67 (by decide) ?_
            refine z_iinc (pc := 82) (v := nI (n + 1)) (lv' := [(1, .int (nI (n + 1))), (0, .ref (g.1 95))]) hC 0 dX6_findPlaces_82 rfl (nI_1 n) (by decide) rfl ?_
            refine z_goto (pc := 85) (tgt := 28) hC dX6_findPlaces_85 (by decide) ?_
            exact ih (n + 1) I3 J3 (by omega) (zpd_s hm.1 hz hfr hzk) (by omega)
  exact L28 41 0 _ J (Nat.zero_le _) zpd_0 (by have := hm.gv; omega)
end ZM22
