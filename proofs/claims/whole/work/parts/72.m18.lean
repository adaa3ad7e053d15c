section ZM18
set_option maxHeartbeats 4000000 in
set_option maxRecDepth 100000 in
theorem kX6_findLines (lx : Launch) (g : zG) (N : Nat) (I : Nat → Nat → Int32) (P : Nat → Nat → Option Nat) (J : Nat → Nat → Int64) {σ : zS} (hm : zMd σ I) (p : Nat) (he : sEx σ p = true) (hk : zKq σ p I) (nw : Nat → Int32) (hn : ∀ k, k ∈ sKids σ p → I 101 (2 * k + 0) = nw k) (hb : zbd σ p nw) (W : Int32) (hW : I 102 (2 * p + 0) = W) (hWr : 0 ≤ W.toInt ∧ W.toInt ≤ 10000) (hrow : ¬ sSt σ p 0 = 1) : z_Ct lx yX6_findLines (zT yX6_findLines cX6_findLines 6 (Option.none : Option FieldType)) ({ frames := 5, cells := 0, slots := 0, locals := 129 } : Room) g N I P J [.ref (g.1 95), .int (nI p)] (fun v I' P' J' => v = none ∧ P' = P ∧ zwk σ nw p W I J I' J') 0 0 := by
  refine z_of (by decide) (Nat.le_of_ble_eq_true rfl) (lv0 := [(0, .ref (g.1 95)), (1, .int (nI p))]) rfl ?_
  intro C hlx hC hE hRm
  have hC : zX C cX6_findLines 6 RX6 (zT yX6_findLines cX6_findLines 6 (Option.none : Option FieldType)) g N := hC
  refine z_iconst (pc := 0) (v := 0) hC dX6_findLines_0 rfl ?_
  refine z_istore_n (pc := 1) (lv' := [(2, .int 0), (0, .ref (g.1 95)), (1, .int (nI p))]) hC dX6_findLines_1 rfl (by decide) rfl ?_
  refine z_iconst (pc := 2) (v := 0) hC dX6_findLines_2 rfl ?_
  refine z_istore_n (pc := 3) (lv' := [(3, .int 0), (2, .int 0), (0, .ref (g.1 95)), (1, .int (nI p))]) hC dX6_findLines_3 rfl (by decide) rfl ?_
  have hkm := kn_le hm.1 p
  have L4 : ∀ (zf : Nat) (a l : Nat) (Ir : Nat → Nat → Int32) (Jr : Nat → Nat → Int64) (hz : zfq σ nw p W a l I J Ir Jr), kn σ p - a < zf → zJ C g N 6 0 0 Ir P Jr 4 [(3, .int (nI l)), (2, .int (nI a)), (0, .ref (g.1 95)), (1, .int (nI p))] [] := by
    intro zf
    induction zf with
    | zero =>
      intro a l Ir Jr hz hn2
      exact absurd hn2 (Nat.not_lt_zero _)
    | succ zf ih =>
      intro a l Ir Jr hz hn2
      have ihO := ih
      have hnO := hn2
      have hmr := hm.eq (fun k => (hz.1 96 k (by decide) (by decide) (fun y => absurd y.1 (by decide)) (fun y => absurd y.1 (by decide))))
      refine z_iload_n (pc := 4) hC 1 dX6_findLines_4 rfl rfl ?_
      refine z_aload_n (pc := 5) hC 2 dX6_findLines_5 rfl rfl z_isr_r ?_
      refine z_gI (pc := 6) hC 6 5 (x := nI (kn σ p)) rfl (z_lt hC (by decide)) rfl inX6 (by decide) rfl zm_4_78 ((hz.1 95 5 (by decide) (by decide) (fun y => absurd y.1 (by decide)) (fun y => absurd y.1 (by decide))).trans hk.1) dX6_findLines_6 ?_
      refine z_icmp_ge (pc := 9) (tgt := 73) hC dX6_findLines_9 (by decide) (fun h9 => ?_) (fun h9 => ?_)
      · skip
        have g9 := Int32.not_lt.mpr h9
        have hge := zc_ge h9 (by have := hz.2.2.2.1; omega) (by omega)
        refine z_aload_n (pc := 73) hC 2 dX6_findLines_73 rfl rfl z_isr_r ?_
        refine z_gF (pc := 74) hC 6 11 (t := 105) rfl (z_lt hC (by decide)) rfl inX6 (by decide) rfl zm_4_84 rfl dX6_findLines_74 ?_
        refine z_iload_n (pc := 77) hC 3 dX6_findLines_77 rfl rfl ?_
        refine z_iload_n (pc := 78) hC 0 dX6_findLines_78 rfl rfl ?_
        refine z_isN (pc := 79) hC p rfl (z_lt hC (by decide)) rfl (hm.lt he).2 (by decide) dX6_findLines_79 ?_
        exact z_vret (pc := 80) hC hE dX6_findLines_80 ⟨rfl, rfl, zwk_row hz hge⟩
      · skip
        have g9 := Int32.not_le.mp h9
        have hap := zc_lt h9 (by have := hz.2.2.2.1; omega) (by omega)
        have hze := zend_spec (ln := sLn σ nw p W) hap
        refine z_aload_n (pc := 12) hC 2 dX6_findLines_12 rfl rfl z_isr_r ?_
        refine z_iload_n (pc := 13) hC 3 dX6_findLines_13 rfl rfl ?_
        refine z_iload_n (pc := 14) hC 1 dX6_findLines_14 rfl rfl ?_
        refine z_cV (pc := 15) (st := []) hC [.int (nI p), .int (nI a)] (kX6_endOfLine C.2.1 g N Ir P Jr hmr p he ⟨(hz.1 95 5 (by decide) (by decide) (fun y => absurd y.1 (by decide)) (fun y => absurd y.1 (by decide))).trans hk.1, fun k hkk => (hz.1 99 k (by decide) (by decide) (fun y => absurd y.1 (by decide)) (fun y => absurd y.1 (by decide))).trans (hk.2 k hkk)⟩ nw (fun k hkk => (hz.1 101 _ (by decide) (by decide) (fun y => absurd y.1 (by decide)) (fun y => absurd y.1 (by decide))).trans (hn k hkk)) W ((hz.1 102 _ (by decide) (by decide) (fun y => zsz_p hm.1 y.2) (fun y => absurd y.1 (by decide))).trans hW) hrow a hap (hz.2.2.2.2.1 hap).1) rfl (z_lt hC (by decide)) rfl zkX6_endOfLine zm_5_23 ⟨rfl, rfl⟩ rfl rfl hRm ⟨Nat.le_of_ble_eq_true rfl, Nat.le_of_ble_eq_true rfl⟩ (Nat.le_of_ble_eq_true rfl) ⟨Nat.zero_le _, Nat.zero_le _⟩ dX6_findLines_15 ?_
        refine z_istore (pc := 18) (lv' := [(4, .int (nI (zend (sLn σ nw p W) (kn σ p) a))), (3, .int (nI l)), (2, .int (nI a)), (0, .ref (g.1 95)), (1, .int (nI p))]) hC dX6_findLines_18 (by decide) rfl ?_
        refine z_iload_n (pc := 20) hC 2 dX6_findLines_20 rfl rfl ?_
        refine z_istore (pc := 21) (lv' := [(5, .int (nI a)), (4, .int (nI (zend (sLn σ nw p W) (kn σ p) a))), (3, .int (nI l)), (2, .int (nI a)), (0, .ref (g.1 95)), (1, .int (nI p))]) hC dX6_findLines_21 (by decide) rfl ?_
        have L23 : ∀ (zf : Nat) (k : Nat) (Ii : Nat → Nat → Int32) (hak : a ≤ k) (hkt : k ≤ (zend (sLn σ nw p W) (kn σ p) a)) (hi : zsl σ p l a k Ir Ii), (zend (sLn σ nw p W) (kn σ p) a) - k < zf → zJ C g N 6 0 0 Ii P Jr 23 [(5, .int (nI k)), (4, .int (nI (zend (sLn σ nw p W) (kn σ p) a))), (3, .int (nI l)), (2, .int (nI a)), (0, .ref (g.1 95)), (1, .int (nI p))] [] := by
          intro zf
          induction zf with
          | zero =>
            intro k Ii hak hkt hi hn2
            exact absurd hn2 (Nat.not_lt_zero _)
          | succ zf ih =>
            intro k Ii hak hkt hi hn2
            have hmi := hmr.eq (fun k => hi.1 96 k (fun y => absurd y.1 (by decide)))
            refine z_iload (pc := 23) hC 0 dX6_findLines_23 rfl ?_
            refine z_iload (pc := 25) hC 1 dX6_findLines_25 rfl ?_
            refine z_icmp_ge (pc := 27) (tgt := 49) hC dX6_findLines_27 (by decide) (fun h27 => ?_) (fun h27 => ?_)
            · skip
              have g27 := Int32.not_lt.mpr h27
              have ek : k = (zend (sLn σ nw p W) (kn σ p) a) := Nat.le_antisymm hkt (zc_ge h27 (by omega) (by omega))
              subst ek
              refine z_aload_n (pc := 49) hC 4 dX6_findLines_49 rfl rfl z_isr_r ?_
              refine z_iload_n (pc := 50) hC 5 dX6_findLines_50 rfl rfl ?_
              refine z_iload_n (pc := 51) hC 3 dX6_findLines_51 rfl rfl ?_
              refine z_iload (pc := 52) hC 1 dX6_findLines_52 rfl ?_
              refine z_iconst (pc := 54) (v := 0) hC dX6_findLines_54 rfl ?_
              refine z_aload_n (pc := 55) hC 4 dX6_findLines_55 rfl rfl z_isr_r ?_
              refine z_iload_n (pc := 56) hC 5 dX6_findLines_56 rfl rfl ?_
              refine z_iconst (pc := 57) (v := 0) hC dX6_findLines_57 rfl ?_
              refine z_cV (pc := 58) (st := [.int 0, .int (nI (zend (sLn σ nw p W) (kn σ p) a)), .int (nI a), .int (nI p), .ref (g.1 95)]) hC [.int (nI p), .int 0] (kX6_inner C.2.1 g N Ii P Jr hmi p 0 he (by decide) W ((hi.1 102 _ (fun y => absurd y.1 (by decide))).trans ((hz.1 102 _ (by decide) (by decide) (fun y => zsz_p hm.1 y.2) (fun y => absurd y.1 (by decide))).trans hW))) rfl (z_lt hC (by decide)) rfl zkX6_inner zm_5_4 ⟨rfl, rfl⟩ rfl rfl hRm ⟨Nat.le_of_ble_eq_true rfl, Nat.le_of_ble_eq_true rfl⟩ (Nat.le_of_ble_eq_true rfl) ⟨Nat.zero_le _, Nat.zero_le _⟩ dX6_findLines_58 ?_
              refine z_callV (pc := 61) (st := []) hC [.int (nI p), .int (nI a), .int (nI (zend (sLn σ nw p W) (kn σ p) a)), .int 0, .int (sIn W (sSt σ p 5))] (kX6_flex C.2.1 g N Ii P Jr hmi p he ⟨(hi.1 95 5 (fun y => absurd y.1 (by decide))).trans ((hz.1 95 5 (by decide) (by decide) (fun y => absurd y.1 (by decide)) (fun y => absurd y.1 (by decide))).trans hk.1), fun k hkk => (hi.1 99 k (fun y => absurd y.1 (by decide))).trans ((hz.1 99 k (by decide) (by decide) (fun y => absurd y.1 (by decide)) (fun y => absurd y.1 (by decide))).trans (hk.2 k hkk))⟩ true a (zend (sLn σ nw p W) (kn σ p) a) 0 rfl (Nat.le_of_lt hze.1) hze.2.1 (by decide) nw (fun k hkk => (hi.1 101 _ (fun y => absurd y.1 (by decide))).trans ((hz.1 101 _ (by decide) (by decide) (fun y => absurd y.1 (by decide)) (fun y => absurd y.1 (by decide))).trans (hn k hkk))) hb (sIn W (sSt σ p 5)) (sIn_rng hm.1 he hWr)) rfl (z_lt hC (by decide)) rfl zkX6_flex zm_5_35 ⟨rfl, rfl⟩ rfl rfl hRm ⟨Nat.le_of_ble_eq_true rfl, Nat.le_of_ble_eq_true rfl⟩ (Nat.le_of_ble_eq_true rfl) ⟨Nat.zero_le _, Nat.zero_le _⟩ dX6_findLines_61 ?_
              intro v I3 P3 J3 hq
              have hzs := zfq_s hrow hap hz hi hq
              obtain ⟨hv, hP3, _⟩ := hq
              subst hv
              rw [hP3]
              show zJ C g N 6 0 0 I3 P J3 64 [(5, .int (nI (zend (sLn σ nw p W) (kn σ p) a))), (4, .int (nI (zend (sLn σ nw p W) (kn σ p) a))), (3, .int (nI l)), (2, .int (nI a)), (0, .ref (g.1 95)), (1, .int (nI p))] []
              refine z_iload (pc := 64) hC 1 dX6_findLines_64 rfl ?_
              refine z_istore_n (pc := 66) (lv' := [(2, .int (nI (zend (sLn σ nw p W) (kn σ p) a))), (5, .int (nI (zend (sLn σ nw p W) (kn σ p) a))), (4, .int (nI (zend (sLn σ nw p W) (kn σ p) a))), (3, .int (nI l)), (0, .ref (g.1 95)), (1, .int (nI p))]) hC dX6_findLines_66 rfl (by decide) rfl ?_
              refine z_iinc (pc := 67) (v := nI (l + 1)) (lv' := [(3, .int (nI (l + 1))), (2, .int (nI (zend (sLn σ nw p W) (kn σ p) a))), (5, .int (nI (zend (sLn σ nw p W) (kn σ p) a))), (4, .int (nI (zend (sLn σ nw p W) (kn σ p) a))), (0, .ref (g.1 95)), (1, .int (nI p))]) hC 3 dX6_findLines_67 rfl (nI_1 l) (by decide) rfl ?_
              refine z_goto (pc := 70) (tgt := 4) hC dX6_findLines_70 (by decide) ?_
              refine z_lvs (lv' := [(3, .int (nI (l + 1))), (2, .int (nI (zend (sLn σ nw p W) (kn σ p) a))), (0, .ref (g.1 95)), (1, .int (nI p))]) [0, 1, 4, 5] rfl ?_
              exact ihO (zend (sLn σ nw p W) (kn σ p) a) (l + 1) I3 J3 hzs (by omega)
            · skip
              have g27 := Int32.not_le.mp h27
              have hklt := zc_lt h27 (by omega) (by omega)
              have hkn : k < kn σ p := by omega
              have hk40 := (sKids_lt hm.1 (kd_mem hkn)).2.1
              refine z_aload_n (pc := 30) hC 4 dX6_findLines_30 rfl rfl z_isr_r ?_
              refine z_gF (pc := 31) hC 6 10 (t := 104) rfl (z_lt hC (by decide)) rfl inX6 (by decide) rfl zm_4_83 rfl dX6_findLines_31 ?_
              refine z_aload_n (pc := 34) hC 4 dX6_findLines_34 rfl rfl z_isr_r ?_
              refine z_gF (pc := 35) hC 6 4 (t := 99) rfl (z_lt hC (by decide)) rfl inX6 (by decide) rfl zm_4_77 rfl dX6_findLines_35 ?_
              refine z_iload (pc := 38) hC 0 dX6_findLines_38 rfl ?_
              refine z_iaN (pc := 40) hC k (x := nI (kd σ p k)) rfl (z_lt hC (by decide)) rfl (by omega) (by decide) ((hi.1 99 k (fun y => absurd y.1 (by decide))).trans ((hz.1 99 k (by decide) (by decide) (fun y => absurd y.1 (by decide)) (fun y => absurd y.1 (by decide))).trans (hk.2 k hkn))) dX6_findLines_40 ?_
              refine z_iload_n (pc := 41) hC 2 dX6_findLines_41 rfl rfl ?_
              refine z_isN (pc := 42) hC (kd σ p k) rfl (z_lt hC (by decide)) rfl hk40 (by decide) dX6_findLines_42 ?_
              refine z_iinc (pc := 43) (v := nI (k + 1)) (lv' := [(5, .int (nI (k + 1))), (4, .int (nI (zend (sLn σ nw p W) (kn σ p) a))), (3, .int (nI l)), (2, .int (nI a)), (0, .ref (g.1 95)), (1, .int (nI p))]) hC 0 dX6_findLines_43 rfl (nI_1 k) (by decide) rfl ?_
              refine z_goto (pc := 46) (tgt := 23) hC dX6_findLines_46 (by decide) ?_
              exact ih (k + 1) _ (by omega) (by omega) (zsl_s hak (by omega) hi) (by omega)
        exact L23 41 a Ir (Nat.le_refl _) (Nat.le_of_lt hze.1) zsl_0 (by omega)
  exact L4 41 0 0 I J zfq_0 (by omega)
end ZM18
