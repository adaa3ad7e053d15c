section ZM19
/-- the widths and lines of the kids of the boxes ahead of n -/
def zwd (σ : zS) (n : Nat) (I : Nat → Nat → Int32) (J : Nat → Nat → Int64) (Ir : Nat → Nat → Int32) (Jr : Nat → Nat → Int64) : Prop := (∀ q j, q ≠ 99 → q ≠ 102 → q ≠ 104 → q ≠ 105 → q ≠ 106 → q ≠ 108 → ¬ (q = 95 ∧ j = 5) → Ir q j = I q j) ∧ (∀ q j, q ≠ 107 → Jr q j = J q j) ∧ Ir 104 0 = 0 ∧ (∀ b, sSh σ b = true → (b = 0 ∨ sPa σ b < n) → Ir 102 (2 * b + 0) = sWD σ b) ∧ (∀ b, b < n → sSh σ b = true → Ir 105 b = sLC σ (sNW σ) b (sWD σ b)) ∧ ∀ p, p < n → sSh σ p = true → ∀ k, k < kn σ p → Ir 104 (kd σ p k) = nI (sLn σ (sNW σ) p (sWD σ p) k)
theorem zwd_0 {σ : zS} {I : Nat → Nat → Int32} {J : Nat → Nat → Int64} : zwd σ 0 I J (z_u (z_u I 102 0 (sVw σ)) 104 0 0) J := ⟨fun q j _ k2 k3 _ _ _ _ => (z_u_a _ _ k3).trans (z_u_a _ _ k2), fun _ _ _ => rfl, z_u_s _ _ _ _, fun b _ h => by
  rcases h with e | e
  · rw [e]
    exact (z_u_a _ _ (by decide)).trans (z_u_s I 102 0 (sVw σ))
  · exact absurd e (Nat.not_lt_zero _), fun b h => absurd h (Nat.not_lt_zero _), fun b h => absurd h (Nat.not_lt_zero _)⟩
theorem zwd_n {σ : zS} (hw : sWF σ) {n : Nat} {I Ir : Nat → Nat → Int32} {J Jr : Nat → Nat → Int64} (h : zwd σ n I J Ir Jr) (hs : sSh σ n = false) : zwd σ (n + 1) I J Ir Jr := by
  obtain ⟨f1, f2, f3, f4, f5, f6⟩ := h
  refine ⟨f1, f2, f3, fun b hb h => f4 b hb ?_, fun b h1 h2 => f5 b ?_ h2, fun p h1 h2 => f6 p ?_ h2⟩
  · by_cases h0 : b = 0
    · exact Or.inl h0
    · refine Or.inr ?_
      have q := (sSh_kid hw hb h0).2
      have : sPa σ b ≠ n := fun e => by rw [e, hs] at q; cases q
      omega
  · have : b ≠ n := fun e => by rw [e, hs] at h2; cases h2
    omega
  · have : p ≠ n := fun e => by rw [e, hs] at h2; cases h2
    omega
theorem sKids_leaf {σ : zS} (hw : sWF σ) {p : Nat} (h : sCon σ p = false) : kn σ p = 0 := by
  refine Nat.eq_zero_of_not_pos (fun q => ?_)
  have := sKids_con hw (kd_mem (σ := σ) (p := p) (i := 0) q)
  rw [h] at this
  cases this
theorem zwd_l {σ : zS} (hw : sWF σ) {n : Nat} {I Ir I1 : Nat → Nat → Int32} {J Jr : Nat → Nat → Int64} (h : zwd σ n I J Ir Jr) (hs : sSh σ n = true) (hf : ∀ q j, q ≠ 99 → ¬ (q = 95 ∧ j = 5) → I1 q j = Ir q j) (hc : sCon σ n = false) {x : Int32} (hx : x = ztl (sSt σ n 19) (sIn (sWD σ n) (sSt σ n 5))) : zwd σ (n + 1) I J (z_u I1 105 n x) Jr := by
  obtain ⟨f1, f2, f3, f4, f5, f6⟩ := h
  have hk := sKids_leaf hw hc
  have key : ∀ q j, q ≠ 99 → q ≠ 95 → q ≠ 105 → z_u I1 105 n x q j = Ir q j := fun q j h1 h2 h3 => (z_u_a _ _ h3).trans (hf q j h1 (fun y => h2 y.1))
  refine ⟨fun q j k1 k2 k3 k4 k5 k6 k7 => ?_, f2, ?_, fun b hb h => ?_, fun b h1 h2 => ?_, fun p h1 h2 k hkk => ?_⟩
  · rw [z_u_a _ _ k4, hf q j k1 k7]
    exact f1 q j k1 k2 k3 k4 k5 k6 k7
  · rw [key _ _ (by decide) (by decide) (by decide)]
    exact f3
  · rw [key _ _ (by decide) (by decide) (by decide)]
    refine f4 b hb ?_
    by_cases h0 : b = 0
    · exact Or.inl h0
    · refine Or.inr ?_
      have q := (sSh_kid hw hb h0).1
      have : sPa σ b ≠ n := fun e => by
        rw [e] at q
        obtain ⟨i, hi, _⟩ := kd_of q
        omega
      omega
  · by_cases e : b = n
    · rw [e, z_u_s, hx]
      unfold sLC
      rw [if_neg (by rw [hc]; decide)]
    · rw [z_u_b _ _ e, hf 105 b (by decide) (by omega)]
      exact f5 b (by omega) h2
  · rw [key _ _ (by decide) (by decide) (by decide)]
    have : p ≠ n := fun e => by rw [e] at hkk; omega
    exact f6 p (by omega) h2 k hkk
theorem zwd_s {σ : zS} (hw : sWF σ) {n : Nat} {I Ir I1 I3 : Nat → Nat → Int32} {J Jr J3 : Nat → Nat → Int64} (h : zwd σ n I J Ir Jr) (hs : sSh σ n = true) (hf : ∀ q j, q ≠ 99 → ¬ (q = 95 ∧ j = 5) → I1 q j = Ir q j) (hc : sCon σ n = true) (hk : zwk σ (sNW σ) n (sWD σ n) I1 Jr I3 J3) : zwd σ (n + 1) I J I3 J3 := by
  obtain ⟨f1, f2, f3, f4, f5, f6⟩ := h
  obtain ⟨g1, g2, g3, g4⟩ := hk
  have ne : ∀ p, p ≠ n → ∀ k, k < kn σ p → kd σ p k ∉ sKids σ n := fun p hp k hkk y => by
    have e1 := (sKids_lt hw (kd_mem hkk)).2.2.2.1
    have e2 := (sKids_lt hw y).2.2.2.1
    exact hp (e1.symm.trans e2)
  have n0 : 0 ∉ sKids σ n := fun y => (sKids_lt hw y).2.2.2.2 rfl
  have k102 : ∀ b, b ∉ sKids σ n → I3 102 (2 * b + 0) = Ir 102 (2 * b + 0) := fun b hb => (g1 102 _ (by decide) (by decide) (fun y => by
    obtain ⟨_, c, y1, y2⟩ := y
    exact hb (by rw [show b = c by omega]; exact y1)) (fun y => absurd y.1 (by decide)) (fun y => absurd y.1 (by decide))).trans (hf 102 _ (by decide) (by omega))
  have k104 : ∀ b, b ∉ sKids σ n → I3 104 b = Ir 104 b := fun b hb => (g1 104 _ (by decide) (by decide) (fun y => absurd y.1 (by decide)) (fun y => hb y.2) (fun y => absurd y.1 (by decide))).trans (hf 104 _ (by decide) (by omega))
  refine ⟨fun q j k1 k2 k3 k4 k5 k6 k7 => ?_, fun q j hq => (g2 q j hq).trans (f2 q j hq), ?_, fun b hb h => ?_, fun b h1 h2 => ?_, fun p h1 h2 k hkk => ?_⟩
  · rw [g1 q j k5 k6 (fun y => k2 y.1) (fun y => k3 y.1) (fun y => k4 y.1), hf q j k1 k7]
    exact f1 q j k1 k2 k3 k4 k5 k6 k7
  · rw [k104 0 n0]
    exact f3
  · by_cases h0 : b = 0
    · rw [k102 b (by rw [h0]; exact n0)]
      exact f4 b hb (Or.inl h0)
    · have q := (sSh_kid hw hb h0).1
      by_cases e : sPa σ b = n
      · rw [e] at q
        obtain ⟨i, hi, e2⟩ := kd_of q
        rw [← e2, sWD_kd hw hi]
        exact (g3 i hi).1
      · rw [k102 b (fun y => e (sKids_lt hw y).2.2.2.1)]
        exact f4 b hb (Or.inr (by omega))
  · by_cases e : b = n
    · rw [e, g4]
      unfold sLC
      rw [if_pos hc]
    · rw [g1 105 b (by decide) (by decide) (fun y => absurd y.1 (by decide)) (fun y => absurd y.1 (by decide)) (fun y => e y.2), hf 105 b (by decide) (by omega)]
      exact f5 b (by omega) h2
  · by_cases e : p = n
    · rw [e] at hkk ⊢
      exact (g3 k hkk).2
    · rw [k104 _ (ne p e k hkk)]
      exact f6 p (by omega) h2 k hkk
set_option maxHeartbeats 4000000 in
set_option maxRecDepth 100000 in
theorem kX6_findWidths (lx : Launch) (g : zG) (N : Nat) (I : Nat → Nat → Int32) (P : Nat → Nat → Option Nat) (J : Nat → Nat → Int64) {σ : zS} (hm : zMd σ I) (hsh : ∀ c, c < sGv σ → I 100 c = zB (sSh σ c)) (hn : ∀ b, sSh σ b = true → I 101 (2 * b + 0) = sNW σ b) : z_Ct lx yX6_findWidths (zT yX6_findWidths cX6_findWidths 2 (Option.none : Option FieldType)) ({ frames := 6, cells := 0, slots := 0, locals := 154 } : Room) g N I P J [.ref (g.1 95)] (fun v I' P' J' => v = none ∧ P' = P ∧ zwd σ (sGv σ) I J I' J') 0 0 := by
  refine z_of (by decide) (Nat.le_of_ble_eq_true rfl) (lv0 := [(0, .ref (g.1 95))]) rfl ?_
  intro C hlx hC hE hRm
  have hC : zX C cX6_findWidths 2 RX6 (zT yX6_findWidths cX6_findWidths 2 (Option.none : Option FieldType)) g N := hC
  refine z_aload_n (pc := 0) hC 0 dX6_findWidths_0 rfl rfl z_isr_r ?_
  refine z_gF (pc := 1) hC 6 8 (t := 102) rfl (z_lt hC (by decide)) rfl inX6 (by decide) rfl zm_4_81 rfl dX6_findWidths_1 ?_
  refine z_iconst (pc := 4) (v := 0) hC dX6_findWidths_4 rfl ?_
  refine z_aload_n (pc := 5) hC 0 dX6_findWidths_5 rfl rfl z_isr_r ?_
  refine z_gF (pc := 6) hC 6 0 (t := 96) rfl (z_lt hC (by decide)) rfl inX6 (by decide) rfl zm_4_73 rfl dX6_findWidths_6 ?_
  refine z_iconst (pc := 9) (v := 1) hC dX6_findWidths_9 rfl ?_
  refine z_iaN (pc := 10) hC 1 (x := sVw σ) rfl (z_lt hC (by decide)) rfl (by decide) (by decide) hm.2.2.1 dX6_findWidths_10 ?_
  refine z_isN (pc := 11) hC 0 rfl (z_lt hC (by decide)) rfl (by decide) (by decide) dX6_findWidths_11 ?_
  refine z_aload_n (pc := 12) hC 0 dX6_findWidths_12 rfl rfl z_isr_r ?_
  refine z_gF (pc := 13) hC 6 10 (t := 104) rfl (z_lt hC (by decide)) rfl inX6 (by decide) rfl zm_4_83 rfl dX6_findWidths_13 ?_
  refine z_iconst (pc := 16) (v := 0) hC dX6_findWidths_16 rfl ?_
  refine z_iconst (pc := 17) (v := 0) hC dX6_findWidths_17 rfl ?_
  refine z_isN (pc := 18) hC 0 rfl (z_lt hC (by decide)) rfl (by decide) (by decide) dX6_findWidths_18 ?_
  refine z_iconst (pc := 19) (v := 0) hC dX6_findWidths_19 rfl ?_
  refine z_istore_n (pc := 20) (lv' := [(1, .int 0), (0, .ref (g.1 95))]) hC dX6_findWidths_20 rfl (by decide) rfl ?_
  have L21 : ∀ (zf : Nat) (n : Nat) (Ir : Nat → Nat → Int32) (Jr : Nat → Nat → Int64) (hnn : n ≤ sGv σ) (hz : zwd σ n I J Ir Jr), sGv σ - n < zf → zJ C g N 2 0 0 Ir P Jr 21 [(1, .int (nI n)), (0, .ref (g.1 95))] [] := by
    intro zf
    induction zf with
    | zero =>
      intro n Ir Jr hnn hz hn2
      exact absurd hn2 (Nat.not_lt_zero _)
    | succ zf ih =>
      intro n Ir Jr hnn hz hn2
      have hmr := hm.eq (fun k => hz.1 96 k (by decide) (by decide) (by decide) (by decide) (by decide) (by decide) (by omega))
      refine z_iload_n (pc := 21) hC 0 dX6_findWidths_21 rfl rfl ?_
      refine z_aload_n (pc := 22) hC 1 dX6_findWidths_22 rfl rfl z_isr_r ?_
      refine z_gF (pc := 23) hC 6 0 (t := 96) rfl (z_lt hC (by decide)) rfl inX6 (by decide) rfl zm_4_73 rfl dX6_findWidths_23 ?_
      refine z_iconst (pc := 26) (v := 0) hC dX6_findWidths_26 rfl ?_
      refine z_iaN (pc := 27) hC 0 (x := nI (sGv σ)) rfl (z_lt hC (by decide)) rfl (by decide) (by decide) hmr.2.1 dX6_findWidths_27 ?_
      refine z_icmp_ge (pc := 28) (tgt := 96) hC dX6_findWidths_28 (by decide) (fun h28 => ?_) (fun h28 => ?_)
      · skip
        have g28 := Int32.not_lt.mpr h28
        have hge := zc_ge h28 (by have := hm.gv; omega) (by have := hm.gv; omega)
        have en : n = sGv σ := by omega
        exact z_vret (pc := 96) hC hE dX6_findWidths_96 ⟨rfl, rfl, by rw [← en]; exact hz⟩
      · skip
        have g28 := Int32.not_le.mp h28
        have hng := zc_lt h28 (by have := hm.gv; omega) (by have := hm.gv; omega)
        have hn40 : n < 40 := by have := hm.gv; omega
        refine z_aload_n (pc := 31) hC 1 dX6_findWidths_31 rfl rfl z_isr_r ?_
        refine z_gF (pc := 32) hC 6 6 (t := 100) rfl (z_lt hC (by decide)) rfl inX6 (by decide) rfl zm_4_79 rfl dX6_findWidths_32 ?_
        refine z_iload_n (pc := 35) hC 0 dX6_findWidths_35 rfl rfl ?_
        refine z_zaN (pc := 36) hC n (x := zB (sSh σ n)) rfl (z_lt hC (by decide)) rfl hn40 (by decide) ((hz.1 100 n (by decide) (by decide) (by decide) (by decide) (by decide) (by decide) (by omega)).trans (hsh n hng)) dX6_findWidths_36 ?_
        refine z_if_eq (pc := 37) (tgt := 90) hC dX6_findWidths_37 (by decide) (fun h37 => ?_) (fun h37 => ?_)
        · skip
          have g37 := zB_f h37
          refine z_iinc (pc := 90) (v := nI (n + 1)) (lv' := [(1, .int (nI (n + 1))), (0, .ref (g.1 95))]) hC 0 dX6_findWidths_90 rfl (nI_1 n) (by decide) rfl ?_
          refine z_goto (pc := 93) (tgt := 21) hC dX6_findWidths_93 (by decide) ?_
          exact ih (n + 1) Ir Jr (by omega) (zwd_n hm.1 hz g37) (by omega)
        · skip
          have g37 := zB_t h37
          refine z_aload_n (pc := 40) hC 1 dX6_findWidths_40 rfl rfl z_isr_r ?_
          refine z_iload_n (pc := 41) hC 0 dX6_findWidths_41 rfl rfl ?_
          refine z_callV (pc := 42) (st := []) hC [.int (nI n)] ((kX6_layKids C.2.1 g N Ir P Jr hmr n (sSh_ex hm.1 g37).2)) rfl (z_lt hC (by decide)) rfl zkX6_layKids zm_4_154 ⟨rfl, rfl⟩ rfl rfl hRm ⟨Nat.le_of_ble_eq_true rfl, Nat.le_of_ble_eq_true rfl⟩ (Nat.le_of_ble_eq_true rfl) ⟨Nat.zero_le _, Nat.zero_le _⟩ dX6_findWidths_42 ?_
          intro v I1 P1 J1 hq
          obtain ⟨hv, hP1, hJ1, hfr, hkq⟩ := hq
          subst hv
          rw [hP1, hJ1]
          have hm1 := hmr.eq (fun k => hfr 96 k (by decide) (by omega))
          have hW1 : I1 102 (2 * n + 0) = sWD σ n := (hfr 102 _ (by decide) (by omega)).trans (hz.2.2.2.1 n g37 (by by_cases h0 : n = 0; exact Or.inl h0; exact Or.inr (sPa_lt hm.1 (sSh_ex hm.1 g37).2 h0).1))
          have hn1 : ∀ k, k ∈ sKids σ n → I1 101 (2 * k + 0) = sNW σ k := fun k hkk => (hfr 101 _ (by decide) (by omega)).trans ((hz.1 101 _ (by decide) (by decide) (by decide) (by decide) (by decide) (by decide) (by omega)).trans (hn k (sKids_sh hm.1 g37 hkk)))
          show zJ C g N 2 0 0 I1 P Jr 45 [(1, .int (nI n)), (0, .ref (g.1 95))] []
          refine z_aload_n (pc := 45) hC 1 dX6_findWidths_45 rfl rfl z_isr_r ?_
          refine z_iload_n (pc := 46) hC 0 dX6_findWidths_46 rfl rfl ?_
          refine z_cV (pc := 47) (st := []) hC [.int (nI n)] (kX6_isLeaf C.2.1 g N I1 P Jr hm1 n (sSh_ex hm.1 g37).2) rfl (z_lt hC (by decide)) rfl zkX6_isLeaf zm_4_212 ⟨rfl, rfl⟩ rfl rfl hRm ⟨Nat.le_of_ble_eq_true rfl, Nat.le_of_ble_eq_true rfl⟩ (Nat.le_of_ble_eq_true rfl) ⟨Nat.zero_le _, Nat.zero_le _⟩ dX6_findWidths_47 ?_
          refine z_if_eq (pc := 50) (tgt := 67) hC dX6_findWidths_50 (by decide) (fun h50 => ?_) (fun h50 => ?_)
          · skip
            have g50 := zB_f h50
            refine z_aload_n (pc := 67) hC 1 dX6_findWidths_67 rfl rfl z_isr_r ?_
            refine z_iload_n (pc := 68) hC 0 dX6_findWidths_68 rfl rfl ?_
            refine z_iconst (pc := 69) (v := 0) hC dX6_findWidths_69 rfl ?_
            refine z_cV (pc := 70) (st := []) hC [.int (nI n), .int 0] (kX6_of C.2.1 g N I1 P Jr hm1 n 0 (sSh_ex hm.1 g37).2 (by decide) 0 rfl) rfl (z_lt hC (by decide)) rfl zkX6_of zm_4_162 ⟨rfl, rfl⟩ rfl rfl hRm ⟨Nat.le_of_ble_eq_true rfl, Nat.le_of_ble_eq_true rfl⟩ (Nat.le_of_ble_eq_true rfl) ⟨Nat.zero_le _, Nat.zero_le _⟩ dX6_findWidths_70 ?_
            refine z_iconst (pc := 73) (v := 1) hC dX6_findWidths_73 rfl ?_
            refine z_icmp_ne (pc := 74) (tgt := 85) hC dX6_findWidths_74 (by decide) (fun h74 => ?_) (fun h74 => ?_)
            · skip
              refine z_aload_n (pc := 85) hC 1 dX6_findWidths_85 rfl rfl z_isr_r ?_
              refine z_iload_n (pc := 86) hC 0 dX6_findWidths_86 rfl rfl ?_
              refine z_callV (pc := 87) (st := []) hC [.int (nI n)] ((kX6_findLines C.2.1 g N I1 P Jr hm1 n (sSh_ex hm.1 g37).2 hkq (sNW σ) hn1 (sNW_bd hm.1 n) (sWD σ n) hW1 (sWD_rng hm.1 g37) h74)) rfl (z_lt hC (by decide)) rfl zkX6_findLines zm_5_19 ⟨rfl, rfl⟩ rfl rfl hRm ⟨Nat.le_of_ble_eq_true rfl, Nat.le_of_ble_eq_true rfl⟩ (Nat.le_of_ble_eq_true rfl) ⟨Nat.zero_le _, Nat.zero_le _⟩ dX6_findWidths_87 ?_
              intro v I3 P3 J3 hq
              obtain ⟨hv, hP3, hzk⟩ := hq
              subst hv
              rw [hP3]
              show zJ C g N 2 0 0 I3 P J3 90 [(1, .int (nI n)), (0, .ref (g.1 95))] []
              refine z_iinc (pc := 90) (v := nI (n + 1)) (lv' := [(1, .int (nI (n + 1))), (0, .ref (g.1 95))]) hC 0 dX6_findWidths_90 rfl (nI_1 n) (by decide) rfl ?_
              refine z_goto (pc := 93) (tgt := 21) hC dX6_findWidths_93 (by decide) ?_
              exact ih (n + 1) I3 J3 (by omega) (zwd_s hm.1 hz g37 hfr (znot_f g50) hzk) (by omega)
            · skip
              refine z_aload_n (pc := 77) hC 1 dX6_findWidths_77 rfl rfl z_isr_r ?_
              refine z_iload_n (pc := 78) hC 0 dX6_findWidths_78 rfl rfl ?_
              refine z_callV (pc := 79) (st := []) hC [.int (nI n)] ((kX6_findColumnWidths C.2.1 g N I1 P Jr hm1 n (sSh_ex hm.1 g37).2 hkq (sNW σ) hn1 (sWD σ n) hW1 h74)) rfl (z_lt hC (by decide)) rfl zkX6_findColumnWidths zm_5_11 ⟨rfl, rfl⟩ rfl rfl hRm ⟨Nat.le_of_ble_eq_true rfl, Nat.le_of_ble_eq_true rfl⟩ (Nat.le_of_ble_eq_true rfl) ⟨Nat.zero_le _, Nat.zero_le _⟩ dX6_findWidths_79 ?_
              intro v I3 P3 J3 hq
              have hzk := zwk_col hq
              obtain ⟨hv, hP3, _⟩ := hq
              subst hv
              rw [hP3]
              show zJ C g N 2 0 0 I3 P J3 82 [(1, .int (nI n)), (0, .ref (g.1 95))] []
              refine z_goto (pc := 82) (tgt := 90) hC dX6_findWidths_82 (by decide) ?_
              refine z_iinc (pc := 90) (v := nI (n + 1)) (lv' := [(1, .int (nI (n + 1))), (0, .ref (g.1 95))]) hC 0 dX6_findWidths_90 rfl (nI_1 n) (by decide) rfl ?_
              refine z_goto (pc := 93) (tgt := 21) hC dX6_findWidths_93 (by decide) ?_
              exact ih (n + 1) I3 J3 (by omega) (zwd_s hm.1 hz g37 hfr (znot_f g50) hzk) (by omega)
          · skip
            have g50 := zB_t h50
            refine z_aload_n (pc := 53) hC 1 dX6_findWidths_53 rfl rfl z_isr_r ?_
            refine z_gF (pc := 54) hC 6 11 (t := 105) rfl (z_lt hC (by decide)) rfl inX6 (by decide) rfl zm_4_84 rfl dX6_findWidths_54 ?_
            refine z_iload_n (pc := 57) hC 0 dX6_findWidths_57 rfl rfl ?_
            refine z_aload_n (pc := 58) hC 1 dX6_findWidths_58 rfl rfl z_isr_r ?_
            refine z_iload_n (pc := 59) hC 0 dX6_findWidths_59 rfl rfl ?_
            refine z_cV (pc := 60) (st := [.int (nI n), .ref (g.1 105)]) hC [.int (nI n)] (kX6_textLines C.2.1 g N I1 P Jr hm1 n (sSh_ex hm.1 g37).2 (sWD σ n) hW1) rfl (z_lt hC (by decide)) rfl zkX6_textLines zm_5_0 ⟨rfl, rfl⟩ rfl rfl hRm ⟨Nat.le_of_ble_eq_true rfl, Nat.le_of_ble_eq_true rfl⟩ (Nat.le_of_ble_eq_true rfl) ⟨Nat.zero_le _, Nat.zero_le _⟩ dX6_findWidths_60 ?_
            refine z_isN (pc := 63) hC n rfl (z_lt hC (by decide)) rfl hn40 (by decide) dX6_findWidths_63 ?_
            refine z_goto (pc := 64) (tgt := 90) hC dX6_findWidths_64 (by decide) ?_
            refine z_iinc (pc := 90) (v := nI (n + 1)) (lv' := [(1, .int (nI (n + 1))), (0, .ref (g.1 95))]) hC 0 dX6_findWidths_90 rfl (nI_1 n) (by decide) rfl ?_
            refine z_goto (pc := 93) (tgt := 21) hC dX6_findWidths_93 (by decide) ?_
            exact ih (n + 1) _ Jr (by omega) (zwd_l hm.1 hz g37 hfr (znot_t g50) rfl) (by omega)
  exact L21 41 0 _ J (Nat.zero_le _) zwd_0 (by have := hm.gv; omega)
end ZM19
