section ZM21
/-- the kids ahead of a are placed: l lines -/
def zpr (σ : zS) (p a l : Nat) (I Ir : Nat → Nat → Int32) : Prop := (∀ q j, ¬ (q = 102 ∧ ∃ c, c ∈ sKids σ p ∧ j = 2 * c + 1) → ¬ (q = 103 ∧ ∃ c, c ∈ sKids σ p ∧ (j = 2 * c ∨ j = 2 * c + 1)) → Ir q j = I q j) ∧ (∀ i, i < a → Ir 102 (2 * kd σ p i + 1) = sHT σ (kd σ p i) ∧ Ir 103 (2 * kd σ p i + 0) = sX σ (kd σ p i) ∧ Ir 103 (2 * kd σ p i + 1) = sY σ (kd σ p i)) ∧ a ≤ kn σ p ∧ (a < kn σ p → zbeg (sLn σ (sNW σ) p (sWD σ p)) a = a ∧ sLn σ (sNW σ) p (sWD σ p) a = l) ∧ (a = kn σ p → l = sLCn σ (sNW σ) p (sWD σ p))
theorem zpr_0 {σ : zS} {p : Nat} {I : Nat → Nat → Int32} : zpr σ p 0 0 I I := ⟨fun _ _ _ _ => rfl, fun i hi => absurd hi (Nat.not_lt_zero _), Nat.zero_le _, fun _ => ⟨rfl, (sLn_step _ _ _ _).1⟩, fun h => by unfold sLCn; rw [if_pos h.symm]⟩
/-- the kids a .. t - 1 of a line have heights and places across -/
def zri (σ : zS) (p l : Nat) (hg tp : Int32) (a t : Nat) (I Ii : Nat → Nat → Int32) : Prop := (∀ q j, ¬ (q = 102 ∧ ∃ i, a ≤ i ∧ i < t ∧ j = 2 * kd σ p i + 1) → ¬ (q = 103 ∧ ∃ i, a ≤ i ∧ i < t ∧ j = 2 * kd σ p i + 1) → Ii q j = I q j) ∧ ∀ i, a ≤ i → i < t → sLn σ (sNW σ) p (sWD σ p) i = l ∧ Ii 102 (2 * kd σ p i + 1) = sRoH σ (kd σ p i) hg ∧ Ii 103 (2 * kd σ p i + 1) = tp + sAcr σ (kd σ p i) (sRoH σ (kd σ p i) hg) hg
theorem zri_0 {σ : zS} {p l : Nat} {hg tp : Int32} {a : Nat} {I : Nat → Nat → Int32} : zri σ p l hg tp a a I I := ⟨fun _ _ _ _ => rfl, fun i h1 h2 => absurd h2 (by omega)⟩
theorem zri_s {σ : zS} {p l : Nat} {hg tp : Int32} {a t : Nat} (hat : a ≤ t) (ht : t < kn σ p) (hl : sLn σ (sNW σ) p (sWD σ p) t = l) {I Ii : Nat → Nat → Int32} (h : zri σ p l hg tp a t I Ii) : zri σ p l hg tp a (t + 1) I (z_u (z_u Ii 102 (2 * kd σ p t + 1) (sRoH σ (kd σ p t) hg)) 103 (2 * kd σ p t + 1) (tp + sAcr σ (kd σ p t) (sRoH σ (kd σ p t) hg) hg)) := by
  refine ⟨fun q j k1 k2 => ?_, fun i h1 h2 => ?_⟩
  · rw [z_u_r2 _ (fun y => k2 ⟨y.1, t, hat, by omega, y.2⟩), z_u_r2 _ (fun y => k1 ⟨y.1, t, hat, by omega, y.2⟩)]
    exact h.1 q j (fun y => k1 ⟨y.1, by obtain ⟨_, i, y1, y2, y3⟩ := y; exact ⟨i, y1, by omega, y3⟩⟩) (fun y => k2 ⟨y.1, by obtain ⟨_, i, y1, y2, y3⟩ := y; exact ⟨i, y1, by omega, y3⟩⟩)
  · by_cases e : i = t
    · rw [e, z_u_a _ _ (by decide), z_u_s, z_u_s]
      exact ⟨hl, rfl, rfl⟩
    · have ne : kd σ p i ≠ kd σ p t := fun y => e (kd_inj (by omega) ht y)
      rw [z_u_a _ _ (by decide), z_u_b _ _ (by omega), z_u_b _ _ (by omega), z_u_a _ _ (by decide)]
      exact h.2 i h1 (by omega)
theorem zri_end {σ : zS} {p l : Nat} {hg tp : Int32} {a t : Nat} {I Ii : Nat → Nat → Int32} (ha : a < kn σ p) (hal : sLn σ (sNW σ) p (sWD σ p) a = l) (hat : a ≤ t) (ht : t ≤ kn σ p) (h : zri σ p l hg tp a t I Ii) (hx : t < kn σ p → sLn σ (sNW σ) p (sWD σ p) t ≠ l) : t = zend (sLn σ (sNW σ) p (sWD σ p)) (kn σ p) a := by
  have h1 : a < t := by
    rcases Nat.lt_or_ge a t with q | q
    · exact q
    · have e : t = a := by omega
      exact absurd hal (by rw [← e]; exact hx (by omega))
  exact (zend_eq h1 ht (fun k k1 k2 => ((h.2 k k1 k2).1).trans hal.symm) (fun q => by rw [hal]; exact hx q)).symm
theorem zpr_s {σ : zS} (hw : sWF σ) {p : Nat} (hrow : ¬ sSt σ p 0 = 1) {a l : Nat} (ha : a < kn σ p) {I Ir Ii I3 : Nat → Nat → Int32} {tp : Int32} (htp : tp = sY σ p + sSt σ p 5 + zsum (fun l => sHg σ p (sHT σ p) l + sSt σ p 4) l) (h : zpr σ p a l I Ir) {t : Nat} (et : t = zend (sLn σ (sNW σ) p (sWD σ p)) (kn σ p) a) (hi : zri σ p l (sHg σ p (sHT σ p) l) tp a t Ir Ii) (hj : zjs σ p 0 a (t - a) (fun i => sX σ p + sSt σ p 5 + sAlo σ p (sWD σ) (sIn (sWD σ p) (sSt σ p 5)) a t i) Ii I3) : zpr σ p t (l + 1) I I3 := by
  obtain ⟨f1, f2, f3, f4, f5⟩ := h
  have hz := zend_spec (ln := sLn σ (sNW σ) p (sWD σ p)) ha
  have hbeg := zend_beg ha (f4 ha).1
  have hst := zend_ln (sLn_step σ (sNW σ) p (sWD σ p)) ha
  have hl := (f4 ha).2
  have hv := zrv_line hw hrow (I := fun _ j => if j = 12 then sX σ p else sY σ p) ha (f4 ha) (tp := tp) (hg := sHg σ p (sHT σ p) l) htp rfl
  rw [← et] at hz hbeg hst hv
  refine ⟨fun q j k1 k2 => ?_, fun i hit => ?_, hz.2.1, fun q => ⟨hbeg.2 q, by rw [hst.1 q, hl]⟩, fun q => ?_⟩
  · rw [hj.1 q j (fun y => k2 ⟨y.1, by obtain ⟨_, i, y1, y2, y3⟩ := y; exact ⟨kd σ p i, kd_mem (by omega), Or.inl y3⟩⟩), hi.1 q j (fun y => k1 ⟨y.1, by obtain ⟨_, i, y1, y2, y3⟩ := y; exact ⟨kd σ p i, kd_mem (by omega), y3⟩⟩) (fun y => k2 ⟨y.1, by obtain ⟨_, i, y1, y2, y3⟩ := y; exact ⟨kd σ p i, kd_mem (by omega), Or.inr y3⟩⟩)]
    exact f1 q j k1 k2
  · by_cases hia : i < a
    · have n1 : ∀ i', a ≤ i' → i' < t → kd σ p i ≠ kd σ p i' := fun i' h1 h2 y => by
        have := kd_inj (σ := σ) (p := p) (i := i) (j := i') (by omega) (by omega) y
        omega
      rw [hj.1 102 _ (fun y => absurd y.1 (by decide)), hi.1 102 _ (fun y => by obtain ⟨_, i', y1, y2, y3⟩ := y; exact n1 i' y1 y2 (by omega)) (fun y => absurd y.1 (by decide)),
        hj.1 103 _ (fun y => by obtain ⟨_, i', y1, y2, y3⟩ := y; exact n1 i' y1 (by omega) (by omega)), hi.1 103 (2 * kd σ p i + 0) (fun y => absurd y.1 (by decide)) (fun y => by obtain ⟨_, i', y1, y2, y3⟩ := y; exact n1 i' y1 y2 (by omega)),
        hj.1 103 (2 * kd σ p i + 1) (fun y => by obtain ⟨_, i', y1, y2, y3⟩ := y; exact n1 i' y1 (by omega) (by omega)), hi.1 103 (2 * kd σ p i + 1) (fun y => absurd y.1 (by decide)) (fun y => by obtain ⟨_, i', y1, y2, y3⟩ := y; exact n1 i' y1 y2 (by omega))]
      exact f2 i hia
    · have hia' : a ≤ i := by omega
      have hik : i < kn σ p := by omega
      have e15 : sRoH σ (kd σ p i) (sHg σ p (sHT σ p) l) = sKH σ p (sHT σ p) i := hv i hia' hit 15 (by simp)
      have e12 : sX σ p + sSt σ p 5 + sAlo σ p (sWD σ) (sIn (sWD σ p) (sSt σ p 5)) a t i = sX σ p + sSt σ p 5 + sKX σ p i := hv i hia' hit 12 (by simp)
      have e13 : tp + sAcr σ (kd σ p i) (sRoH σ (kd σ p i) (sHg σ p (sHT σ p) l)) (sHg σ p (sHT σ p) l) = sY σ p + sSt σ p 5 + sKY σ p i := hv i hia' hit 13 (by simp)
      refine ⟨?_, ?_, ?_⟩
      · rw [hj.1 102 _ (fun y => absurd y.1 (by decide)), (hi.2 i hia' hit).2.1, e15, sHT_kd hw hik]
      · rw [hj.2 i hia' (by omega)]
        show sX σ p + sSt σ p 5 + sAlo σ p (sWD σ) (sIn (sWD σ p) (sSt σ p 5)) a t i = _
        rw [e12, sX_kd hw hik]
      · rw [hj.1 103 _ (fun y => by obtain ⟨_, i', y1, y2, y3⟩ := y; omega), (hi.2 i hia' hit).2.2, e13, sY_kd hw hik]
  · unfold sLCn
    rw [if_neg (by omega), hst.2 q, hl]
theorem zpk_row {σ : zS} {p a l : Nat} {I Ir : Nat → Nat → Int32} {J : Nat → Nat → Int64} (h : zpr σ p a l I Ir) (ha : a = kn σ p) : zpk σ p I J Ir J := ⟨fun q j _ _ k3 k4 => h.1 q j k3 k4, fun _ _ _ => rfl, fun i hi => h.2.1 i (by omega)⟩
set_option maxHeartbeats 4000000 in
set_option maxRecDepth 100000 in
theorem kX6_placeRow (lx : Launch) (g : zG) (N : Nat) (I : Nat → Nat → Int32) (P : Nat → Nat → Option Nat) (J : Nat → Nat → Int64) {σ : zS} (hm : zMd σ I) (p : Nat) (he : sEx σ p = true) (hk : zKq σ p I) (hs : sSh σ p = true) (hW : I 102 (2 * p + 0) = sWD σ p) (hH : I 102 (2 * p + 1) = sHT σ p) (hX : I 103 (2 * p + 0) = sX σ p) (hY : I 103 (2 * p + 1) = sY σ p) (hkw : ∀ k, k ∈ sKids σ p → I 102 (2 * k + 0) = sWD σ k) (hkh : ∀ k, k ∈ sKids σ p → I 101 (2 * k + 1) = sNH σ k) (hla : ∀ k, k < kn σ p → I 104 (kd σ p k) = nI (sLn σ (sNW σ) p (sWD σ p) k)) (hlm : I 105 p = nI (sLCn σ (sNW σ) p (sWD σ p))) (hrow : ¬ sSt σ p 0 = 1) : z_Ct lx yX6_placeRow (zT yX6_placeRow cX6_placeRow 7 (Option.none : Option FieldType)) ({ frames := 3, cells := 0, slots := 0, locals := 73 } : Room) g N I P J [.ref (g.1 95), .int (nI p)] (fun v I' P' J' => v = none ∧ P' = P ∧ zpk σ p I J I' J') 0 0 := by
  refine z_of (by decide) (Nat.le_of_ble_eq_true rfl) (lv0 := [(0, .ref (g.1 95)), (1, .int (nI p))]) rfl ?_
  intro C hlx hC hE hRm
  have hC : zX C cX6_placeRow 7 RX6 (zT yX6_placeRow cX6_placeRow 7 (Option.none : Option FieldType)) g N := hC
  refine z_aload_n (pc := 0) hC 0 dX6_placeRow_0 rfl rfl z_isr_r ?_
  refine z_gF (pc := 1) hC 6 9 (t := 103) rfl (z_lt hC (by decide)) rfl inX6 (by decide) rfl zm_4_82 rfl dX6_placeRow_1 ?_
  refine z_iconst (pc := 4) (v := 2) hC dX6_placeRow_4 rfl ?_
  refine z_iload_n (pc := 5) hC 1 dX6_placeRow_5 rfl rfl ?_
  refine z_imul (pc := 6) hC dX6_placeRow_6 ?_
  refine z_iconst (pc := 7) (v := 1) hC dX6_placeRow_7 rfl ?_
  refine z_iadd (pc := 8) hC dX6_placeRow_8 ?_
  refine z_iaN (pc := 9) hC (2 * p + 1) (x := sY σ p) rfl (z_lt hC (by decide)) (zix2 p 1) (by have := (hm.lt he).2; omega) (by decide) hY dX6_placeRow_9 ?_
  refine z_aload_n (pc := 10) hC 0 dX6_placeRow_10 rfl rfl z_isr_r ?_
  refine z_iload_n (pc := 11) hC 1 dX6_placeRow_11 rfl rfl ?_
  refine z_iconst (pc := 12) (v := 5) hC dX6_placeRow_12 rfl ?_
  refine z_cV (pc := 13) (st := [.int (sY σ p)]) hC [.int (nI p), .int 5] (kX6_of C.2.1 g N I P J hm p 5 he (by decide) 5 rfl) rfl (z_lt hC (by decide)) rfl zkX6_of zm_4_162 ⟨rfl, rfl⟩ rfl rfl hRm ⟨Nat.le_of_ble_eq_true rfl, Nat.le_of_ble_eq_true rfl⟩ (Nat.le_of_ble_eq_true rfl) ⟨Nat.zero_le _, Nat.zero_le _⟩ dX6_placeRow_13 ?_
  refine z_iadd (pc := 16) hC dX6_placeRow_16 ?_
  refine z_istore_n (pc := 17) (lv' := [(2, .int ((sY σ p) + (sSt σ p 5))), (0, .ref (g.1 95)), (1, .int (nI p))]) hC dX6_placeRow_17 rfl (by decide) rfl ?_
  refine z_iconst (pc := 18) (v := 0) hC dX6_placeRow_18 rfl ?_
  refine z_istore_n (pc := 19) (lv' := [(3, .int 0), (2, .int ((sY σ p) + (sSt σ p 5))), (0, .ref (g.1 95)), (1, .int (nI p))]) hC dX6_placeRow_19 rfl (by decide) rfl ?_
  refine z_iconst (pc := 20) (v := 0) hC dX6_placeRow_20 rfl ?_
  refine z_istore (pc := 21) (lv' := [(4, .int 0), (3, .int 0), (2, .int ((sY σ p) + (sSt σ p 5))), (0, .ref (g.1 95)), (1, .int (nI p))]) hC dX6_placeRow_21 (by decide) rfl ?_
  have hkm := kn_le hm.1 p
  have hlcm := sLCn_le hm.1 (sNW σ) p (sWD σ p)
  have hp40 := (hm.lt he).2
  have L23 : ∀ (zf : Nat) (a l : Nat) (Ir : Nat → Nat → Int32) (hz : zpr σ p a l I Ir), kn σ p - a < zf → zJ C g N 7 0 0 Ir P J 23 [(4, .int (nI l)), (3, .int (nI a)), (2, .int (sY σ p + sSt σ p 5 + zsum (fun l => sHg σ p (sHT σ p) l + sSt σ p 4) l)), (0, .ref (g.1 95)), (1, .int (nI p))] [] := by
    intro zf
    induction zf with
    | zero =>
      intro a l Ir hz hn2
      exact absurd hn2 (Nat.not_lt_zero _)
    | succ zf ih =>
      intro a l Ir hz hn2
      have ihO := ih
      have hnO := hn2
      have hmr := hm.eq (fun k => (hz.1 96 k (fun y => absurd y.1 (by decide)) (fun y => absurd y.1 (by decide))))
      have hl40 : l ≤ 40 := by
        rcases Nat.lt_or_ge a (kn σ p) with q | q
        · have q2 := hz.2.2.2.1 q
          have := sLn_lt (nw := sNW σ) (W := sWD σ p) q
          omega
        · have := hz.2.2.2.2 (Nat.le_antisymm hz.2.2.1 q)
          omega
      refine z_iload (pc := 23) hC 0 dX6_placeRow_23 rfl ?_
      refine z_aload_n (pc := 25) hC 3 dX6_placeRow_25 rfl rfl z_isr_r ?_
      refine z_gF (pc := 26) hC 6 11 (t := 105) rfl (z_lt hC (by decide)) rfl inX6 (by decide) rfl zm_4_84 rfl dX6_placeRow_26 ?_
      refine z_iload_n (pc := 29) hC 4 dX6_placeRow_29 rfl rfl ?_
      refine z_iaN (pc := 30) hC p (x := nI (sLCn σ (sNW σ) p (sWD σ p))) rfl (z_lt hC (by decide)) rfl (hm.lt he).2 (by decide) ((hz.1 105 p (fun y => absurd y.1 (by decide)) (fun y => absurd y.1 (by decide))).trans hlm) dX6_placeRow_30 ?_
      refine z_icmp_ge (pc := 31) (tgt := 153) hC dX6_placeRow_31 (by decide) (fun h31 => ?_) (fun h31 => ?_)
      · skip
        have g31 := Int32.not_lt.mpr h31
        have hge := zc_ge h31 (by omega) (by omega)
        have ea : a = kn σ p := zln_end hm.1 hz.2.2.1 hz.2.2.2.1 (by rw [show l = l from rfl]; exact h31)
        exact z_vret (pc := 153) hC hE dX6_placeRow_153 ⟨rfl, rfl, zpk_row hz ea⟩
      · skip
        have g31 := Int32.not_le.mp h31
        have hll := zc_lt h31 (by omega) (by omega)
        have hap : a < kn σ p := by
          rcases Nat.lt_or_ge a (kn σ p) with q | q
          · exact q
          · have := hz.2.2.2.2 (Nat.le_antisymm hz.2.2.1 q)
            omega
        have hal := hz.2.2.2.1 hap
        have J58 : zJ C g N 7 0 0 Ir P J 58 [(4, .int (nI l)), (3, .int (nI a)), (2, .int (sY σ p + sSt σ p 5 + zsum (fun l => sHg σ p (sHT σ p) l + sSt σ p 4) l)), (0, .ref (g.1 95)), (1, .int (nI p))] [.int (sHg σ p (sHT σ p) l)] := by
          refine z_istore (pc := 58) (lv' := [(5, .int (sHg σ p (sHT σ p) l)), (4, .int (nI l)), (3, .int (nI a)), (2, .int (sY σ p + sSt σ p 5 + zsum (fun l => sHg σ p (sHT σ p) l + sSt σ p 4) l)), (0, .ref (g.1 95)), (1, .int (nI p))]) hC dX6_placeRow_58 (by decide) rfl ?_
          refine z_iload_n (pc := 60) hC 2 dX6_placeRow_60 rfl rfl ?_
          refine z_istore (pc := 61) (lv' := [(6, .int (nI a)), (5, .int (sHg σ p (sHT σ p) l)), (4, .int (nI l)), (3, .int (nI a)), (2, .int (sY σ p + sSt σ p 5 + zsum (fun l => sHg σ p (sHT σ p) l + sSt σ p 4) l)), (0, .ref (g.1 95)), (1, .int (nI p))]) hC dX6_placeRow_61 (by decide) rfl ?_
          have L63 : ∀ (zf : Nat) (t : Nat) (Ii : Nat → Nat → Int32) (hat : a ≤ t) (htn : t ≤ kn σ p) (hi : zri σ p l (sHg σ p (sHT σ p) l) (sY σ p + sSt σ p 5 + zsum (fun l => sHg σ p (sHT σ p) l + sSt σ p 4) l) a t Ir Ii), kn σ p - t < zf → zJ C g N 7 0 0 Ii P J 63 [(6, .int (nI t)), (5, .int (sHg σ p (sHT σ p) l)), (4, .int (nI l)), (3, .int (nI a)), (2, .int (sY σ p + sSt σ p 5 + zsum (fun l => sHg σ p (sHT σ p) l + sSt σ p 4) l)), (0, .ref (g.1 95)), (1, .int (nI p))] [] := by
            intro zf
            induction zf with
            | zero =>
              intro t Ii hat htn hi hn2
              exact absurd hn2 (Nat.not_lt_zero _)
            | succ zf ih =>
              intro t Ii hat htn hi hn2
              have hmi := hmr.eq (fun k => (hi.1 96 k (fun y => absurd y.1 (by decide)) (fun y => absurd y.1 (by decide))))
              refine z_iload (pc := 63) hC 0 dX6_placeRow_63 rfl ?_
              refine z_aload_n (pc := 65) hC 5 dX6_placeRow_65 rfl rfl z_isr_r ?_
              refine z_gI (pc := 66) hC 6 5 (x := nI (kn σ p)) rfl (z_lt hC (by decide)) rfl inX6 (by decide) rfl zm_4_78 ((hi.1 95 5 (fun y => absurd y.1 (by decide)) (fun y => absurd y.1 (by decide))).trans ((hz.1 95 5 (fun y => absurd y.1 (by decide)) (fun y => absurd y.1 (by decide))).trans hk.1)) dX6_placeRow_66 ?_
              refine z_icmp_ge (pc := 69) (tgt := 123) hC dX6_placeRow_69 (by decide) (fun h69 => ?_) (fun h69 => ?_)
              · skip
                have g69 := Int32.not_lt.mpr h69
                have hge := zc_ge h69 (by omega) (by omega)
                have et := zri_end hap hal.2 hat htn hi (fun q => absurd q (by omega))
                refine z_aload_n (pc := 123) hC 5 dX6_placeRow_123 rfl rfl z_isr_r ?_
                refine z_iload_n (pc := 124) hC 6 dX6_placeRow_124 rfl rfl ?_
                refine z_iload_n (pc := 125) hC 3 dX6_placeRow_125 rfl rfl ?_
                refine z_iload (pc := 126) hC 0 dX6_placeRow_126 rfl ?_
                refine z_iconst (pc := 128) (v := 0) hC dX6_placeRow_128 rfl ?_
                refine z_callV (pc := 129) (st := []) hC [.int (nI p), .int (nI a), .int (nI t), .int 0] (kX6_justify C.2.1 g N Ii P J hmi p he ⟨(hi.1 95 5 (fun y => absurd y.1 (by decide)) (fun y => absurd y.1 (by decide))).trans ((hz.1 95 5 (fun y => absurd y.1 (by decide)) (fun y => absurd y.1 (by decide))).trans hk.1), fun k hkk => (hi.1 99 k (fun y => absurd y.1 (by decide)) (fun y => absurd y.1 (by decide))).trans ((hz.1 99 k (fun y => absurd y.1 (by decide)) (fun y => absurd y.1 (by decide))).trans (hk.2 k hkk))⟩ a t 0 hat htn (by decide) (sWD σ) (fun i i1 i2 => (hi.1 102 _ (fun y => by obtain ⟨_, i, y1, y2, y3⟩ := y; omega) (fun y => absurd y.1 (by decide))).trans ((hz.1 102 _ (fun y => by obtain ⟨_, c, y1, y2⟩ := y; omega) (fun y => absurd y.1 (by decide))).trans (hkw _ (kd_mem (by omega))))) (sWD σ p) (sX σ p) ((hi.1 102 _ (fun y => by obtain ⟨_, i, y1, y2, y3⟩ := y; omega) (fun y => absurd y.1 (by decide))).trans ((hz.1 102 _ (fun y => by obtain ⟨_, c, y1, y2⟩ := y; omega) (fun y => absurd y.1 (by decide))).trans hW)) ((hi.1 103 _ (fun y => absurd y.1 (by decide)) (fun y => by obtain ⟨_, i, y1, y2, y3⟩ := y; omega)).trans ((hz.1 103 _ (fun y => absurd y.1 (by decide)) (fun y => by obtain ⟨_, c, y1, y2⟩ := y; have := (sKids_lt hm.1 y1).1; omega)).trans hX))) rfl (z_lt hC (by decide)) rfl zkX6_justify zm_5_75 ⟨rfl, rfl⟩ rfl rfl hRm ⟨Nat.le_of_ble_eq_true rfl, Nat.le_of_ble_eq_true rfl⟩ (Nat.le_of_ble_eq_true rfl) ⟨Nat.zero_le _, Nat.zero_le _⟩ dX6_placeRow_129 ?_
                intro v I3 P3 J3 hq
                obtain ⟨hv, hP3, hJ3, hj⟩ := hq
                subst hv
                rw [hP3, hJ3]
                have hzs := zpr_s hm.1 hrow hap rfl hz et hi hj
                have hmm3 := hmi.eq (fun k => hj.1 96 k (by omega))
                show zJ C g N 7 0 0 I3 P J 132 [(6, .int (nI t)), (5, .int (sHg σ p (sHT σ p) l)), (4, .int (nI l)), (3, .int (nI a)), (2, .int (sY σ p + sSt σ p 5 + zsum (fun l => sHg σ p (sHT σ p) l + sSt σ p 4) l)), (0, .ref (g.1 95)), (1, .int (nI p))] []
                refine z_iload (pc := 132) hC 0 dX6_placeRow_132 rfl ?_
                refine z_istore_n (pc := 134) (lv' := [(3, .int (nI t)), (6, .int (nI t)), (5, .int (sHg σ p (sHT σ p) l)), (4, .int (nI l)), (2, .int (sY σ p + sSt σ p 5 + zsum (fun l => sHg σ p (sHT σ p) l + sSt σ p 4) l)), (0, .ref (g.1 95)), (1, .int (nI p))]) hC dX6_placeRow_134 rfl (by decide) rfl ?_
                refine z_iload_n (pc := 135) hC 4 dX6_placeRow_135 rfl rfl ?_
                refine z_iload (pc := 136) hC 2 dX6_placeRow_136 rfl ?_
                refine z_aload_n (pc := 138) hC 5 dX6_placeRow_138 rfl rfl z_isr_r ?_
                refine z_iload_n (pc := 139) hC 6 dX6_placeRow_139 rfl rfl ?_
                refine z_iconst (pc := 140) (v := 4) hC dX6_placeRow_140 rfl ?_
                refine z_cV (pc := 141) (st := [.int (sHg σ p (sHT σ p) l), .int (sY σ p + sSt σ p 5 + zsum (fun l => sHg σ p (sHT σ p) l + sSt σ p 4) l)]) hC [.int (nI p), .int 4] (kX6_of C.2.1 g N I3 P J hmm3 p 4 he (by decide) 4 rfl) rfl (z_lt hC (by decide)) rfl zkX6_of zm_4_162 ⟨rfl, rfl⟩ rfl rfl hRm ⟨Nat.le_of_ble_eq_true rfl, Nat.le_of_ble_eq_true rfl⟩ (Nat.le_of_ble_eq_true rfl) ⟨Nat.zero_le _, Nat.zero_le _⟩ dX6_placeRow_141 ?_
                refine z_iadd (pc := 144) hC dX6_placeRow_144 ?_
                refine z_iadd (pc := 145) hC dX6_placeRow_145 ?_
                refine z_eqI (show (sY σ p + sSt σ p 5 + zsum (fun l => sHg σ p (sHT σ p) l + sSt σ p 4) l) + ((sHg σ p (sHT σ p) l) + (sSt σ p 4)) = sY σ p + sSt σ p 5 + zsum (fun l => sHg σ p (sHT σ p) l + sSt σ p 4) (l + 1) from Int32.add_assoc _ _ _) ?_
                refine z_istore_n (pc := 146) (lv' := [(2, .int (sY σ p + sSt σ p 5 + zsum (fun l => sHg σ p (sHT σ p) l + sSt σ p 4) (l + 1))), (3, .int (nI t)), (6, .int (nI t)), (5, .int (sHg σ p (sHT σ p) l)), (4, .int (nI l)), (0, .ref (g.1 95)), (1, .int (nI p))]) hC dX6_placeRow_146 rfl (by decide) rfl ?_
                refine z_iinc (pc := 147) (v := nI (l + 1)) (lv' := [(4, .int (nI (l + 1))), (2, .int (sY σ p + sSt σ p 5 + zsum (fun l => sHg σ p (sHT σ p) l + sSt σ p 4) (l + 1))), (3, .int (nI t)), (6, .int (nI t)), (5, .int (sHg σ p (sHT σ p) l)), (0, .ref (g.1 95)), (1, .int (nI p))]) hC 4 dX6_placeRow_147 rfl (nI_1 l) (by decide) rfl ?_
                refine z_goto (pc := 150) (tgt := 23) hC dX6_placeRow_150 (by decide) ?_
                refine z_lvs (lv' := [(4, .int (nI (l + 1))), (3, .int (nI t)), (2, .int (sY σ p + sSt σ p 5 + zsum (fun l => sHg σ p (sHT σ p) l + sSt σ p 4) (l + 1))), (0, .ref (g.1 95)), (1, .int (nI p))]) [0, 2, 1, 5, 6] rfl ?_
                exact ihO t (l + 1) I3 hzs (by have := zend_spec (ln := sLn σ (sNW σ) p (sWD σ p)) hap; omega)
              · skip
                have g69 := Int32.not_le.mp h69
                have htk := zc_lt h69 (by omega) (by omega)
                have hk40 := (sKids_lt hm.1 (kd_mem htk)).2.1
                have hln40 := sLn_lt (nw := sNW σ) (W := sWD σ p) htk
                have hlc40 := sLCn_le hm.1 (sNW σ) p (sWD σ p)
                refine z_aload_n (pc := 72) hC 5 dX6_placeRow_72 rfl rfl z_isr_r ?_
                refine z_gF (pc := 73) hC 6 10 (t := 104) rfl (z_lt hC (by decide)) rfl inX6 (by decide) rfl zm_4_83 rfl dX6_placeRow_73 ?_
                refine z_aload_n (pc := 76) hC 5 dX6_placeRow_76 rfl rfl z_isr_r ?_
                refine z_gF (pc := 77) hC 6 4 (t := 99) rfl (z_lt hC (by decide)) rfl inX6 (by decide) rfl zm_4_77 rfl dX6_placeRow_77 ?_
                refine z_iload (pc := 80) hC 0 dX6_placeRow_80 rfl ?_
                refine z_iaN (pc := 82) hC t (x := nI (kd σ p t)) rfl (z_lt hC (by decide)) rfl (by omega) (by decide) ((hi.1 99 t (fun y => absurd y.1 (by decide)) (fun y => absurd y.1 (by decide))).trans ((hz.1 99 t (fun y => absurd y.1 (by decide)) (fun y => absurd y.1 (by decide))).trans (hk.2 t htk))) dX6_placeRow_82 ?_
                refine z_iaN (pc := 83) hC (kd σ p t) (x := nI ((sLn σ (sNW σ) p (sWD σ p)) t)) rfl (z_lt hC (by decide)) rfl hk40 (by decide) ((hi.1 104 _ (fun y => absurd y.1 (by decide)) (fun y => absurd y.1 (by decide))).trans ((hz.1 104 _ (fun y => absurd y.1 (by decide)) (fun y => absurd y.1 (by decide))).trans (hla t htk))) dX6_placeRow_83 ?_
                refine z_iload (pc := 84) hC 2 dX6_placeRow_84 rfl ?_
                refine z_icmp_ne (pc := 86) (tgt := 123) hC dX6_placeRow_86 (by decide) (fun h86 => ?_) (fun h86 => ?_)
                · skip
                  have et := zri_end hap hal.2 hat htn hi (fun _ q => h86 (congrArg nI q))
                  refine z_aload_n (pc := 123) hC 5 dX6_placeRow_123 rfl rfl z_isr_r ?_
                  refine z_iload_n (pc := 124) hC 6 dX6_placeRow_124 rfl rfl ?_
                  refine z_iload_n (pc := 125) hC 3 dX6_placeRow_125 rfl rfl ?_
                  refine z_iload (pc := 126) hC 0 dX6_placeRow_126 rfl ?_
                  refine z_iconst (pc := 128) (v := 0) hC dX6_placeRow_128 rfl ?_
                  refine z_callV (pc := 129) (st := []) hC [.int (nI p), .int (nI a), .int (nI t), .int 0] (kX6_justify C.2.1 g N Ii P J hmi p he ⟨(hi.1 95 5 (fun y => absurd y.1 (by decide)) (fun y => absurd y.1 (by decide))).trans ((hz.1 95 5 (fun y => absurd y.1 (by decide)) (fun y => absurd y.1 (by decide))).trans hk.1), fun k hkk => (hi.1 99 k (fun y => absurd y.1 (by decide)) (fun y => absurd y.1 (by decide))).trans ((hz.1 99 k (fun y => absurd y.1 (by decide)) (fun y => absurd y.1 (by decide))).trans (hk.2 k hkk))⟩ a t 0 hat htn (by decide) (sWD σ) (fun i i1 i2 => (hi.1 102 _ (fun y => by obtain ⟨_, i, y1, y2, y3⟩ := y; omega) (fun y => absurd y.1 (by decide))).trans ((hz.1 102 _ (fun y => by obtain ⟨_, c, y1, y2⟩ := y; omega) (fun y => absurd y.1 (by decide))).trans (hkw _ (kd_mem (by omega))))) (sWD σ p) (sX σ p) ((hi.1 102 _ (fun y => by obtain ⟨_, i, y1, y2, y3⟩ := y; omega) (fun y => absurd y.1 (by decide))).trans ((hz.1 102 _ (fun y => by obtain ⟨_, c, y1, y2⟩ := y; omega) (fun y => absurd y.1 (by decide))).trans hW)) ((hi.1 103 _ (fun y => absurd y.1 (by decide)) (fun y => by obtain ⟨_, i, y1, y2, y3⟩ := y; omega)).trans ((hz.1 103 _ (fun y => absurd y.1 (by decide)) (fun y => by obtain ⟨_, c, y1, y2⟩ := y; have := (sKids_lt hm.1 y1).1; omega)).trans hX))) rfl (z_lt hC (by decide)) rfl zkX6_justify zm_5_75 ⟨rfl, rfl⟩ rfl rfl hRm ⟨Nat.le_of_ble_eq_true rfl, Nat.le_of_ble_eq_true rfl⟩ (Nat.le_of_ble_eq_true rfl) ⟨Nat.zero_le _, Nat.zero_le _⟩ dX6_placeRow_129 ?_
                  intro v I3 P3 J3 hq
                  obtain ⟨hv, hP3, hJ3, hj⟩ := hq
                  subst hv
                  rw [hP3, hJ3]
                  have hzs := zpr_s hm.1 hrow hap rfl hz et hi hj
                  have hmm3 := hmi.eq (fun k => hj.1 96 k (by omega))
                  show zJ C g N 7 0 0 I3 P J 132 [(6, .int (nI t)), (5, .int (sHg σ p (sHT σ p) l)), (4, .int (nI l)), (3, .int (nI a)), (2, .int (sY σ p + sSt σ p 5 + zsum (fun l => sHg σ p (sHT σ p) l + sSt σ p 4) l)), (0, .ref (g.1 95)), (1, .int (nI p))] []
                  refine z_iload (pc := 132) hC 0 dX6_placeRow_132 rfl ?_
                  refine z_istore_n (pc := 134) (lv' := [(3, .int (nI t)), (6, .int (nI t)), (5, .int (sHg σ p (sHT σ p) l)), (4, .int (nI l)), (2, .int (sY σ p + sSt σ p 5 + zsum (fun l => sHg σ p (sHT σ p) l + sSt σ p 4) l)), (0, .ref (g.1 95)), (1, .int (nI p))]) hC dX6_placeRow_134 rfl (by decide) rfl ?_
                  refine z_iload_n (pc := 135) hC 4 dX6_placeRow_135 rfl rfl ?_
                  refine z_iload (pc := 136) hC 2 dX6_placeRow_136 rfl ?_
                  refine z_aload_n (pc := 138) hC 5 dX6_placeRow_138 rfl rfl z_isr_r ?_
                  refine z_iload_n (pc := 139) hC 6 dX6_placeRow_139 rfl rfl ?_
                  refine z_iconst (pc := 140) (v := 4) hC dX6_placeRow_140 rfl ?_
                  refine z_cV (pc := 141) (st := [.int (sHg σ p (sHT σ p) l), .int (sY σ p + sSt σ p 5 + zsum (fun l => sHg σ p (sHT σ p) l + sSt σ p 4) l)]) hC [.int (nI p), .int 4] (kX6_of C.2.1 g N I3 P J hmm3 p 4 he (by decide) 4 rfl) rfl (z_lt hC (by decide)) rfl zkX6_of zm_4_162 ⟨rfl, rfl⟩ rfl rfl hRm ⟨Nat.le_of_ble_eq_true rfl, Nat.le_of_ble_eq_true rfl⟩ (Nat.le_of_ble_eq_true rfl) ⟨Nat.zero_le _, Nat.zero_le _⟩ dX6_placeRow_141 ?_
                  refine z_iadd (pc := 144) hC dX6_placeRow_144 ?_
                  refine z_iadd (pc := 145) hC dX6_placeRow_145 ?_
                  refine z_eqI (show (sY σ p + sSt σ p 5 + zsum (fun l => sHg σ p (sHT σ p) l + sSt σ p 4) l) + ((sHg σ p (sHT σ p) l) + (sSt σ p 4)) = sY σ p + sSt σ p 5 + zsum (fun l => sHg σ p (sHT σ p) l + sSt σ p 4) (l + 1) from Int32.add_assoc _ _ _) ?_
                  refine z_istore_n (pc := 146) (lv' := [(2, .int (sY σ p + sSt σ p 5 + zsum (fun l => sHg σ p (sHT σ p) l + sSt σ p 4) (l + 1))), (3, .int (nI t)), (6, .int (nI t)), (5, .int (sHg σ p (sHT σ p) l)), (4, .int (nI l)), (0, .ref (g.1 95)), (1, .int (nI p))]) hC dX6_placeRow_146 rfl (by decide) rfl ?_
                  refine z_iinc (pc := 147) (v := nI (l + 1)) (lv' := [(4, .int (nI (l + 1))), (2, .int (sY σ p + sSt σ p 5 + zsum (fun l => sHg σ p (sHT σ p) l + sSt σ p 4) (l + 1))), (3, .int (nI t)), (6, .int (nI t)), (5, .int (sHg σ p (sHT σ p) l)), (0, .ref (g.1 95)), (1, .int (nI p))]) hC 4 dX6_placeRow_147 rfl (nI_1 l) (by decide) rfl ?_
                  refine z_goto (pc := 150) (tgt := 23) hC dX6_placeRow_150 (by decide) ?_
                  refine z_lvs (lv' := [(4, .int (nI (l + 1))), (3, .int (nI t)), (2, .int (sY σ p + sSt σ p 5 + zsum (fun l => sHg σ p (sHT σ p) l + sSt σ p 4) (l + 1))), (0, .ref (g.1 95)), (1, .int (nI p))]) [0, 2, 1, 5, 6] rfl ?_
                  exact ihO t (l + 1) I3 hzs (by have := zend_spec (ln := sLn σ (sNW σ) p (sWD σ p)) hap; omega)
                · skip
                  have hlt := (nI_eq (by omega) (by omega)).mp h86
                  refine z_aload_n (pc := 89) hC 5 dX6_placeRow_89 rfl rfl z_isr_r ?_
                  refine z_aload_n (pc := 90) hC 5 dX6_placeRow_90 rfl rfl z_isr_r ?_
                  refine z_gF (pc := 91) hC 6 4 (t := 99) rfl (z_lt hC (by decide)) rfl inX6 (by decide) rfl zm_4_77 rfl dX6_placeRow_91 ?_
                  refine z_iload (pc := 94) hC 0 dX6_placeRow_94 rfl ?_
                  refine z_iaN (pc := 96) hC t (x := nI (kd σ p t)) rfl (z_lt hC (by decide)) rfl (by omega) (by decide) ((hi.1 99 t (fun y => absurd y.1 (by decide)) (fun y => absurd y.1 (by decide))).trans ((hz.1 99 t (fun y => absurd y.1 (by decide)) (fun y => absurd y.1 (by decide))).trans (hk.2 t htk))) dX6_placeRow_96 ?_
                  refine z_iload (pc := 97) hC 1 dX6_placeRow_97 rfl ?_
                  refine z_cV (pc := 99) (st := []) hC [.int (nI (kd σ p t)), .int (sHg σ p (sHT σ p) l)] (kX6_setRowHeight C.2.1 g N Ii P J hmi (kd σ p t) (sKids_lt hm.1 (kd_mem htk)).2.2.1 (sKids_lt hm.1 (kd_mem htk)).2.2.2.2 (sHg σ p (sHT σ p) l) ((hi.1 101 _ (fun y => absurd y.1 (by decide)) (fun y => absurd y.1 (by decide))).trans ((hz.1 101 _ (fun y => absurd y.1 (by decide)) (fun y => absurd y.1 (by decide))).trans (hkh _ (kd_mem htk))))) rfl (z_lt hC (by decide)) rfl zkX6_setRowHeight zm_5_90 ⟨rfl, rfl⟩ rfl rfl hRm ⟨Nat.le_of_ble_eq_true rfl, Nat.le_of_ble_eq_true rfl⟩ (Nat.le_of_ble_eq_true rfl) ⟨Nat.zero_le _, Nat.zero_le _⟩ dX6_placeRow_99 ?_
                  refine z_aload_n (pc := 102) hC 5 dX6_placeRow_102 rfl rfl z_isr_r ?_
                  refine z_aload_n (pc := 103) hC 5 dX6_placeRow_103 rfl rfl z_isr_r ?_
                  refine z_gF (pc := 104) hC 6 4 (t := 99) rfl (z_lt hC (by decide)) rfl inX6 (by decide) rfl zm_4_77 rfl dX6_placeRow_104 ?_
                  refine z_iload (pc := 107) hC 0 dX6_placeRow_107 rfl ?_
                  refine z_iaN (pc := 109) hC t (x := nI (kd σ p t)) rfl (z_lt hC (by decide)) rfl (by omega) (by decide) ((z_u_a _ _ (by decide)).trans ((hi.1 99 t (fun y => absurd y.1 (by decide)) (fun y => absurd y.1 (by decide))).trans ((hz.1 99 t (fun y => absurd y.1 (by decide)) (fun y => absurd y.1 (by decide))).trans (hk.2 t htk)))) dX6_placeRow_109 ?_
                  refine z_iconst (pc := 110) (v := 1) hC dX6_placeRow_110 rfl ?_
                  refine z_iload_n (pc := 111) hC 4 dX6_placeRow_111 rfl rfl ?_
                  refine z_iload (pc := 112) hC 1 dX6_placeRow_112 rfl ?_
                  refine z_cV (pc := 114) (st := []) hC [.int (nI (kd σ p t)), .int 1, .int (sY σ p + sSt σ p 5 + zsum (fun l => sHg σ p (sHT σ p) l + sSt σ p 4) l), .int (sHg σ p (sHT σ p) l)] (kX6_align C.2.1 g N (z_u Ii 102 (2 * (kd σ p t) + 1) (sRoH σ (kd σ p t) (sHg σ p (sHT σ p) l))) P J (hmi.u (show 96 ≠ 102 by decide)) (kd σ p t) (sKids_lt hm.1 (kd_mem htk)).2.2.1 (sKids_lt hm.1 (kd_mem htk)).2.2.2.2 1 (by decide) (sY σ p + sSt σ p 5 + zsum (fun l => sHg σ p (sHT σ p) l + sSt σ p 4) l) (sHg σ p (sHT σ p) l) (sRoH σ (kd σ p t) (sHg σ p (sHT σ p) l)) (z_u_s _ _ _ _)) rfl (z_lt hC (by decide)) rfl zkX6_align zm_5_82 ⟨rfl, rfl⟩ rfl rfl hRm ⟨Nat.le_of_ble_eq_true rfl, Nat.le_of_ble_eq_true rfl⟩ (Nat.le_of_ble_eq_true rfl) ⟨Nat.zero_le _, Nat.zero_le _⟩ dX6_placeRow_114 ?_
                  refine z_iinc (pc := 117) (v := nI (t + 1)) (lv' := [(6, .int (nI (t + 1))), (5, .int (sHg σ p (sHT σ p) l)), (4, .int (nI l)), (3, .int (nI a)), (2, .int (sY σ p + sSt σ p 5 + zsum (fun l => sHg σ p (sHT σ p) l + sSt σ p 4) l)), (0, .ref (g.1 95)), (1, .int (nI p))]) hC 0 dX6_placeRow_117 rfl (nI_1 t) (by decide) rfl ?_
                  refine z_goto (pc := 120) (tgt := 63) hC dX6_placeRow_120 (by decide) ?_
                  exact ih (t + 1) _ (by omega) (by omega) (zri_s hat htk hlt hi) (by omega)
          exact L63 41 a Ir (Nat.le_refl _) (Nat.le_of_lt hap) zri_0 (by omega)
        refine z_aload_n (pc := 34) hC 3 dX6_placeRow_34 rfl rfl z_isr_r ?_
        refine z_iload_n (pc := 35) hC 4 dX6_placeRow_35 rfl rfl ?_
        refine z_iconst (pc := 36) (v := 1) hC dX6_placeRow_36 rfl ?_
        refine z_cV (pc := 37) (st := []) hC [.int (nI p), .int 1] (kX6_of C.2.1 g N Ir P J hmr p 1 he (by decide) 1 rfl) rfl (z_lt hC (by decide)) rfl zkX6_of zm_4_162 ⟨rfl, rfl⟩ rfl rfl hRm ⟨Nat.le_of_ble_eq_true rfl, Nat.le_of_ble_eq_true rfl⟩ (Nat.le_of_ble_eq_true rfl) ⟨Nat.zero_le _, Nat.zero_le _⟩ dX6_placeRow_37 ?_
        refine z_if_ne (pc := 40) (tgt := 52) hC dX6_placeRow_40 (by decide) (fun h40 => ?_) (fun h40 => ?_)
        · skip
          refine z_aload_n (pc := 52) hC 3 dX6_placeRow_52 rfl rfl z_isr_r ?_
          refine z_iload (pc := 53) hC 0 dX6_placeRow_53 rfl ?_
          refine z_cV (pc := 55) (st := []) hC [.int (nI l)] (kX6_lineHeight C.2.1 g N Ir P J hmr p he ⟨(hz.1 95 5 (fun y => absurd y.1 (by decide)) (fun y => absurd y.1 (by decide))).trans hk.1, fun k hkk => (hz.1 99 k (fun y => absurd y.1 (by decide)) (fun y => absurd y.1 (by decide))).trans (hk.2 k hkk)⟩ (sNH σ) (fun k hkk => (hz.1 101 _ (fun y => absurd y.1 (by decide)) (fun y => absurd y.1 (by decide))).trans (hkh k hkk)) (sWD σ p) (fun k hkk => (hz.1 104 _ (fun y => absurd y.1 (by decide)) (fun y => absurd y.1 (by decide))).trans (hla k hkk)) l (by omega)) rfl (z_lt hC (by decide)) rfl zkX6_lineHeight zm_5_63 ⟨rfl, rfl⟩ rfl rfl hRm ⟨Nat.le_of_ble_eq_true rfl, Nat.le_of_ble_eq_true rfl⟩ (Nat.le_of_ble_eq_true rfl) ⟨Nat.zero_le _, Nat.zero_le _⟩ dX6_placeRow_55 ?_
          refine z_eqI (show sLH σ (sNH σ) p (sWD σ p) l = sHg σ p (sHT σ p) l from by unfold sHg; rw [if_pos (swr hm.1 he h40)]) ?_
          exact J58
        · skip
          refine z_aload_n (pc := 43) hC 3 dX6_placeRow_43 rfl rfl z_isr_r ?_
          refine z_iload_n (pc := 44) hC 4 dX6_placeRow_44 rfl rfl ?_
          refine z_iconst (pc := 45) (v := 1) hC dX6_placeRow_45 rfl ?_
          refine z_cV (pc := 46) (st := []) hC [.int (nI p), .int 1] (kX6_inner C.2.1 g N Ir P J hmr p 1 he (by decide) (sHT σ p) ((hz.1 102 _ (fun y => by obtain ⟨_, c, y1, y2⟩ := y; have := (sKids_lt hm.1 y1).1; omega) (fun y => absurd y.1 (by decide))).trans hH)) rfl (z_lt hC (by decide)) rfl zkX6_inner zm_5_4 ⟨rfl, rfl⟩ rfl rfl hRm ⟨Nat.le_of_ble_eq_true rfl, Nat.le_of_ble_eq_true rfl⟩ (Nat.le_of_ble_eq_true rfl) ⟨Nat.zero_le _, Nat.zero_le _⟩ dX6_placeRow_46 ?_
          refine z_goto (pc := 49) (tgt := 58) hC dX6_placeRow_49 (by decide) ?_
          refine z_eqI (show sIn (sHT σ p) (sSt σ p 5) = sHg σ p (sHT σ p) l from by unfold sHg; rw [if_neg (by rw [h40]; decide)]) ?_
          exact J58
  have KK := L23 100 0 0 I zpr_0 (by omega)
  rw [show sY σ p + sSt σ p 5 + zsum (fun l => sHg σ p (sHT σ p) l + sSt σ p 4) 0 = sY σ p + sSt σ p 5 from Int32.add_zero _] at KK
  exact KK
end ZM21
