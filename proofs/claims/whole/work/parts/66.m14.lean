section ZM14
set_option maxHeartbeats 4000000 in
set_option maxRecDepth 100000 in
theorem kX6_deviation (lx : Launch) (g : zG) (N : Nat) (I : Nat → Nat → Int32) (P : Nat → Nat → Option Nat) (J : Nat → Nat → Int64) {σ : zS} (hm : zMd σ I) (p : Nat) (hk : zKq σ p I) (k x : Nat) (hkn : k < kn σ p) (ha : x < 2) (pv : Int32) (hp : I 108 k = pv) : z_Ct lx yX6_deviation (zT yX6_deviation cX6_deviation 3 (Option.some FieldType.int)) ({ frames := 2, cells := 0, slots := 0, locals := 48 } : Room) g N I P J [.ref (g.1 95), .int (nI k), .int (nI x)] (zMu (some (.int (zlim pv (sSt σ (kd σ p k) (12 + x)) (sSt σ (kd σ p k) (14 + x)) - pv))) I P J) 0 0 := by
  refine z_of (by decide) (Nat.le_of_ble_eq_true rfl) (lv0 := [(0, .ref (g.1 95)), (1, .int (nI k)), (2, .int (nI x))]) rfl ?_
  intro C hlx hC hE hRm
  have hC : zX C cX6_deviation 3 RX6 (zT yX6_deviation cX6_deviation 3 (Option.some FieldType.int)) g N := hC
  refine z_aload_n (pc := 0) hC 0 dX6_deviation_0 rfl rfl z_isr_r ?_
  refine z_aload_n (pc := 1) hC 0 dX6_deviation_1 rfl rfl z_isr_r ?_
  refine z_gF (pc := 2) hC 6 4 (t := 99) rfl (z_lt hC (by decide)) rfl inX6 (by decide) rfl zm_4_77 rfl dX6_deviation_2 ?_
  refine z_iload_n (pc := 5) hC 1 dX6_deviation_5 rfl rfl ?_
  refine z_iaN (pc := 6) hC k (x := nI (kd σ p k)) rfl (z_lt hC (by decide)) rfl (by have := kn_le hm.1 p; omega) (by decide) (hk.2 k hkn) dX6_deviation_6 ?_
  refine z_iload_n (pc := 7) hC 2 dX6_deviation_7 rfl rfl ?_
  refine z_aload_n (pc := 8) hC 0 dX6_deviation_8 rfl rfl z_isr_r ?_
  refine z_gF (pc := 9) hC 6 14 (t := 108) rfl (z_lt hC (by decide)) rfl inX6 (by decide) rfl zm_4_87 rfl dX6_deviation_9 ?_
  refine z_iload_n (pc := 12) hC 1 dX6_deviation_12 rfl rfl ?_
  refine z_iaN (pc := 13) hC k (x := pv) rfl (z_lt hC (by decide)) rfl (by have := kn_le hm.1 p; omega) (by decide) hp dX6_deviation_13 ?_
  refine z_cV (pc := 14) (st := []) hC [.int (nI (kd σ p k)), .int (nI x), .int pv] (kX6_limited C.2.1 g N I P J hm (kd σ p k) x (sKids_lt hm.1 (kd_mem hkn)).2.2.1 ha pv) rfl (z_lt hC (by decide)) rfl zkX6_limited zm_4_232 ⟨rfl, rfl⟩ rfl rfl hRm ⟨Nat.le_of_ble_eq_true rfl, Nat.le_of_ble_eq_true rfl⟩ (Nat.le_of_ble_eq_true rfl) ⟨Nat.zero_le _, Nat.zero_le _⟩ dX6_deviation_14 ?_
  refine z_aload_n (pc := 17) hC 0 dX6_deviation_17 rfl rfl z_isr_r ?_
  refine z_gF (pc := 18) hC 6 14 (t := 108) rfl (z_lt hC (by decide)) rfl inX6 (by decide) rfl zm_4_87 rfl dX6_deviation_18 ?_
  refine z_iload_n (pc := 21) hC 1 dX6_deviation_21 rfl rfl ?_
  refine z_iaN (pc := 22) hC k (x := pv) rfl (z_lt hC (by decide)) rfl (by have := kn_le hm.1 p; omega) (by decide) hp dX6_deviation_22 ?_
  refine z_isub (pc := 23) hC dX6_deviation_23 ?_
  exact z_iret (pc := 24) hC hE dX6_deviation_24 (zMu_i rfl)
/-- a round's fixing: the first d items are done -/
def zfs (σ : zS) (p x fr : Nat) (s t : (Nat → Int32) × (Nat → Bool)) (d : Nat) (I Ir : Nat → Nat → Int32) : Prop := (∀ q j, ¬ (q = 106 ∧ fr ≤ j ∧ j < fr + d) → ¬ (q = 102 ∧ ∃ i, fr ≤ i ∧ i < fr + d ∧ j = 2 * kd σ p i + x) → Ir q j = I q j) ∧ ∀ j, j < d → Ir 106 (fr + j) = zB (t.2 j) ∧ Ir 102 (2 * kd σ p (fr + j) + x) = t.1 j
theorem zfs_0 {σ : zS} {p x fr : Nat} {s t : (Nat → Int32) × (Nat → Bool)} {I : Nat → Nat → Int32} : zfs σ p x fr s t 0 I I := ⟨fun _ _ _ _ => rfl, fun j hj => absurd hj (Nat.not_lt_zero _)⟩
theorem zfs_k {σ : zS} {p x fr : Nat} {s t : (Nat → Int32) × (Nat → Bool)} {d : Nat} {I Ir : Nat → Nat → Int32} (h : zfs σ p x fr s t d I Ir) (h1 : Ir 106 (fr + d) = zB (t.2 d)) (h2 : Ir 102 (2 * kd σ p (fr + d) + x) = t.1 d) : zfs σ p x fr s t (d + 1) I Ir := by
  refine ⟨fun q j k1 k2 => h.1 q j (fun y => k1 ⟨y.1, y.2.1, by omega⟩) (fun y => k2 ⟨y.1, by obtain ⟨_, i, y1, y2, y3⟩ := y; exact ⟨i, y1, by omega, y3⟩⟩), fun j hj => ?_⟩
  by_cases e : j = d
  · rw [e]; exact ⟨h1, h2⟩
  · exact h.2 j (by omega)
theorem zfs_s {σ : zS} {p x fr : Nat} {s t : (Nat → Int32) × (Nat → Bool)} {d : Nat} (hk : fr + d < kn σ p) {I Ir : Nat → Nat → Int32} (h : zfs σ p x fr s t d I Ir) {a b : Int32} (h1 : a = zB (t.2 d)) (h2 : b = t.1 d) : zfs σ p x fr s t (d + 1) I (z_u (z_u Ir 106 (fr + d) a) 102 (2 * kd σ p (fr + d) + x) b) := by
  refine ⟨fun q j k1 k2 => ?_, fun j hj => ?_⟩
  · rw [z_u_r2 _ (fun y => k2 ⟨y.1, fr + d, by omega, by omega, y.2⟩), z_u_r2 _ (fun y => k1 ⟨y.1, by omega, by omega⟩)]
    exact h.1 q j (fun y => k1 ⟨y.1, y.2.1, by omega⟩) (fun y => k2 ⟨y.1, by obtain ⟨_, i, y1, y2, y3⟩ := y; exact ⟨i, y1, by omega, y3⟩⟩)
  · by_cases e : j = d
    · rw [e, z_u_a _ _ (by decide), z_u_s, z_u_s]; exact ⟨h1, h2⟩
    · have ne : kd σ p (fr + j) ≠ kd σ p (fr + d) := fun y => e (by have := kd_inj (σ := σ) (p := p) (i := fr + j) (j := fr + d) (by omega) hk y; omega)
      rw [z_u_a _ _ (by decide), z_u_b _ _ (by omega), z_u_b _ _ (by omega), z_u_a _ _ (by decide)]
      exact h.2 j (by omega)
/-- what a round makes of sizes and of who is fixed, the proposals given -/
def mRnd (n : Nat) (lo hi pp : Nat → Int32) (s : (Nat → Int32) × (Nat → Bool)) : (Nat → Int32) × (Nat → Bool) := (fun j => if s.2 j = false ∧ fxFix (fxSum (fxDev lo hi pp) s.2 n) (fxDev lo hi pp j) = true then pp j + fxDev lo hi pp j else s.1 j, fun j => s.2 j || fxFix (fxSum (fxDev lo hi pp) s.2 n) (fxDev lo hi pp j))
theorem zpz (a b : Int32) : a + (b - a) = b := by rw [Int32.add_comm, Int32.sub_add_cancel]
theorem zne {σ : zS} {p x fr d : Nat} (hk : fr + d < kn σ p) : ¬ (102 = 102 ∧ ∃ i, fr ≤ i ∧ i < fr + d ∧ 2 * kd σ p (fr + d) + x = 2 * kd σ p i + x) := fun q => by
  obtain ⟨_, i, h1, h2, h3⟩ := q
  have := kd_inj (σ := σ) (p := p) (i := fr + d) (j := i) hk (by omega) (by omega)
  omega
set_option maxHeartbeats 4000000 in
set_option maxRecDepth 100000 in
theorem kX6_fixSome (lx : Launch) (g : zG) (N : Nat) (I : Nat → Nat → Int32) (P : Nat → Nat → Option Nat) (J : Nat → Nat → Int64) {σ : zS} (hm : zMd σ I) (p : Nat) (hk : zKq σ p I) (fr z x : Nat) (hfz : fr ≤ z) (hzk : z ≤ kn σ p) (ha : x < 2) (s : (Nat → Int32) × (Nat → Bool)) (pp : Nat → Int32) (hI6 : ∀ j, j < z - fr → I 106 (fr + j) = zB (s.2 j)) (hI2 : ∀ j, j < z - fr → I 102 (2 * kd σ p (fr + j) + x) = s.1 j) (hP8 : ∀ j, j < z - fr → s.2 j = false → I 108 (fr + j) = pp j) : z_Ct lx yX6_fixSome (zT yX6_fixSome cX6_fixSome 10 (Option.some FieldType.int)) ({ frames := 3, cells := 0, slots := 0, locals := 70 } : Room) g N I P J [.ref (g.1 95), .int (nI fr), .int (nI z), .int (nI x)] (fun r I' P' J' => r = some (.int (nI (zcn (mRnd (z - fr) (mLo σ p x fr) (mHi σ p x fr) pp s).2 (z - fr)))) ∧ P' = P ∧ J' = J ∧ zfs σ p x fr s (mRnd (z - fr) (mLo σ p x fr) (mHi σ p x fr) pp s) (z - fr) I I') 0 0 := by
  refine z_of (by decide) (Nat.le_of_ble_eq_true rfl) (lv0 := [(0, .ref (g.1 95)), (1, .int (nI fr)), (2, .int (nI z)), (3, .int (nI x))]) rfl ?_
  intro C hlx hC hE hRm
  have hC : zX C cX6_fixSome 10 RX6 (zT yX6_fixSome cX6_fixSome 10 (Option.some FieldType.int)) g N := hC
  refine z_lconst (pc := 0) (v := 0) hC dX6_fixSome_0 rfl ?_
  refine z_lstore (pc := 1) (lv' := [(4, .long 0), (0, .ref (g.1 95)), (1, .int (nI fr)), (2, .int (nI z)), (3, .int (nI x))]) hC dX6_fixSome_1 (by decide) rfl ?_
  refine z_iload_n (pc := 3) hC 2 dX6_fixSome_3 rfl rfl ?_
  refine z_istore (pc := 4) (lv' := [(6, .int (nI fr)), (4, .long 0), (0, .ref (g.1 95)), (1, .int (nI fr)), (2, .int (nI z)), (3, .int (nI x))]) hC dX6_fixSome_4 (by decide) rfl ?_
  have L6 : ∀ (zf : Nat) (d : Nat) (hd : d ≤ z - fr), z - fr - d < zf → zJ C g N 10 0 0 I P J 6 [(6, .int (nI (fr + d))), (4, .long (fxSum (fxDev (mLo σ p x fr) (mHi σ p x fr) pp) s.2 d)), (0, .ref (g.1 95)), (1, .int (nI fr)), (2, .int (nI z)), (3, .int (nI x))] [] := by
    intro zf
    induction zf with
    | zero =>
      intro d hd hn2
      exact absurd hn2 (Nat.not_lt_zero _)
    | succ zf ih =>
      intro d hd hn2
      refine z_iload (pc := 6) hC 0 dX6_fixSome_6 rfl ?_
      refine z_iload_n (pc := 8) hC 4 dX6_fixSome_8 rfl rfl ?_
      refine z_icmp_ge (pc := 9) (tgt := 45) hC dX6_fixSome_9 (by decide) (fun h9 => ?_) (fun h9 => ?_)
      · skip
        have g9 := Int32.not_lt.mpr h9
        have hge := zc_ge h9 (by have := kn_le hm.1 p; omega) (by have := kn_le hm.1 p; omega)
        have ed : d = z - fr := by omega
        subst ed
        refine z_iconst (pc := 45) (v := 0) hC dX6_fixSome_45 rfl ?_
        refine z_istore (pc := 46) (lv' := [(6, .int 0), (4, .long (fxSum (fxDev (mLo σ p x fr) (mHi σ p x fr) pp) s.2 (z - fr))), (0, .ref (g.1 95)), (1, .int (nI fr)), (2, .int (nI z)), (3, .int (nI x))]) hC dX6_fixSome_46 (by decide) rfl ?_
        refine z_iload_n (pc := 48) hC 3 dX6_fixSome_48 rfl rfl ?_
        refine z_istore (pc := 49) (lv' := [(7, .int (nI fr)), (6, .int 0), (4, .long (fxSum (fxDev (mLo σ p x fr) (mHi σ p x fr) pp) s.2 (z - fr))), (0, .ref (g.1 95)), (1, .int (nI fr)), (2, .int (nI z)), (3, .int (nI x))]) hC dX6_fixSome_49 (by decide) rfl ?_
        have L51 : ∀ (zf : Nat) (d : Nat) (Ir : Nat → Nat → Int32) (hd : d ≤ z - fr) (hz : zfs σ p x fr s (mRnd (z - fr) (mLo σ p x fr) (mHi σ p x fr) pp s) d I Ir), z - fr - d < zf → zJ C g N 10 0 0 Ir P J 51 [(7, .int (nI (fr + d))), (6, .int (nI (zcn (mRnd (z - fr) (mLo σ p x fr) (mHi σ p x fr) pp s).2 d))), (4, .long (fxSum (fxDev (mLo σ p x fr) (mHi σ p x fr) pp) s.2 (z - fr))), (0, .ref (g.1 95)), (1, .int (nI fr)), (2, .int (nI z)), (3, .int (nI x))] [] := by
          intro zf
          induction zf with
          | zero =>
            intro d Ir hd hz hn2
            exact absurd hn2 (Nat.not_lt_zero _)
          | succ zf ih =>
            intro d Ir hd hz hn2
            have hmr := hm.eq (fun k => hz.1 96 k (by omega) (by omega))
            refine z_iload (pc := 51) hC 0 dX6_fixSome_51 rfl ?_
            refine z_iload_n (pc := 53) hC 5 dX6_fixSome_53 rfl rfl ?_
            refine z_icmp_ge (pc := 54) (tgt := 179) hC dX6_fixSome_54 (by decide) (fun h54 => ?_) (fun h54 => ?_)
            · skip
              have g54 := Int32.not_lt.mpr h54
              have hge := zc_ge h54 (by have := kn_le hm.1 p; omega) (by have := kn_le hm.1 p; omega)
              have ed : d = z - fr := by omega
              refine z_iload (pc := 179) hC 1 dX6_fixSome_179 rfl ?_
              exact z_iret (pc := 181) hC hE dX6_fixSome_181 (by subst ed; exact ⟨rfl, rfl, rfl, hz⟩)
            · skip
              have g54 := Int32.not_le.mp h54
              have hdz : fr + d < z := zc_lt h54 (by have := kn_le hm.1 p; omega) (by have := kn_le hm.1 p; omega)
              have hkn : fr + d < kn σ p := by omega
              have hk40 := (sKids_lt hm.1 (kd_mem hkn)).2.1
              have hkm := kn_le hm.1 p
              refine z_aload_n (pc := 57) hC 3 dX6_fixSome_57 rfl rfl z_isr_r ?_
              refine z_gF (pc := 58) hC 6 12 (t := 106) rfl (z_lt hC (by decide)) rfl inX6 (by decide) rfl zm_4_85 rfl dX6_fixSome_58 ?_
              refine z_iload (pc := 61) hC 0 dX6_fixSome_61 rfl ?_
              refine z_zaN (pc := 63) hC (fr + d) (x := zB (s.2 d)) rfl (z_lt hC (by decide)) rfl (by omega) (by decide) ((hz.1 106 _ (by omega) (by omega)).trans (hI6 d (by omega))) dX6_fixSome_63 ?_
              refine z_if_ne (pc := 64) (tgt := 173) hC dX6_fixSome_64 (by decide) (fun h64 => ?_) (fun h64 => ?_)
              · skip
                have g64 := zB_t h64
                refine z_iinc (pc := 173) (v := nI (fr + (d + 1))) (lv' := [(7, .int (nI (fr + (d + 1)))), (6, .int (nI (zcn (mRnd (z - fr) (mLo σ p x fr) (mHi σ p x fr) pp s).2 d))), (4, .long (fxSum (fxDev (mLo σ p x fr) (mHi σ p x fr) pp) s.2 (z - fr))), (0, .ref (g.1 95)), (1, .int (nI fr)), (2, .int (nI z)), (3, .int (nI x))]) hC 0 dX6_fixSome_173 rfl (nI_1 (fr + d)) (by decide) rfl ?_
                refine z_goto (pc := 176) (tgt := 51) hC dX6_fixSome_176 (by decide) ?_
                have et : (mRnd (z - fr) (mLo σ p x fr) (mHi σ p x fr) pp s).2 d = true := by show (s.2 d || _) = true; rw [g64]; rfl
                have e1 : (mRnd (z - fr) (mLo σ p x fr) (mHi σ p x fr) pp s).1 d = s.1 d := if_neg (fun q => by rw [g64] at q; cases q.1)
                have K := ih (d + 1) Ir (by omega) (zfs_k hz ((hz.1 106 _ (by omega) (by omega)).trans ((hI6 d (by omega)).trans (by rw [g64, et]))) ((hz.1 102 _ (by omega) (zne hkn)).trans ((hI2 d (by omega)).trans e1.symm))) (by omega)
                rw [show nI (zcn (mRnd (z - fr) (mLo σ p x fr) (mHi σ p x fr) pp s).2 (d + 1)) = nI (zcn (mRnd (z - fr) (mLo σ p x fr) (mHi σ p x fr) pp s).2 d) from by rw [show zcn (mRnd (z - fr) (mLo σ p x fr) (mHi σ p x fr) pp s).2 (d + 1) = zcn (mRnd (z - fr) (mLo σ p x fr) (mHi σ p x fr) pp s).2 d + (if (mRnd (z - fr) (mLo σ p x fr) (mHi σ p x fr) pp s).2 d = true then 0 else 1) from rfl, et]; first | rfl | exact (Int32.add_zero _).symm | exact (nI_1 _).symm] at K
                exact K
              · skip
                have g64 := zB_f h64
                refine z_aload_n (pc := 67) hC 3 dX6_fixSome_67 rfl rfl z_isr_r ?_
                refine z_iload (pc := 68) hC 0 dX6_fixSome_68 rfl ?_
                refine z_iload_n (pc := 70) hC 6 dX6_fixSome_70 rfl rfl ?_
                refine z_cV (pc := 71) (st := []) hC [.int (nI (fr + d)), .int (nI x)] (kX6_deviation C.2.1 g N Ir P J hmr p ⟨(hz.1 95 5 (by omega) (by omega)).trans hk.1, fun k hk2 => (hz.1 99 k (by omega) (by omega)).trans (hk.2 k hk2)⟩ (fr + d) x hkn ha (pp d) ((hz.1 108 _ (by omega) (by omega)).trans (hP8 d (by omega) g64))) rfl (z_lt hC (by decide)) rfl zkX6_deviation zm_5_51 ⟨rfl, rfl⟩ rfl rfl hRm ⟨Nat.le_of_ble_eq_true rfl, Nat.le_of_ble_eq_true rfl⟩ (Nat.le_of_ble_eq_true rfl) ⟨Nat.zero_le _, Nat.zero_le _⟩ dX6_fixSome_71 ?_
                refine z_istore (pc := 74) (lv' := [(8, .int (zlim (pp d) (sSt σ (kd σ p (fr + d)) (12 + x)) (sSt σ (kd σ p (fr + d)) (14 + x)) - pp d)), (7, .int (nI (fr + d))), (6, .int (nI (zcn (mRnd (z - fr) (mLo σ p x fr) (mHi σ p x fr) pp s).2 d))), (4, .long (fxSum (fxDev (mLo σ p x fr) (mHi σ p x fr) pp) s.2 (z - fr))), (0, .ref (g.1 95)), (1, .int (nI fr)), (2, .int (nI z)), (3, .int (nI x))]) hC dX6_fixSome_74 (by decide) rfl ?_
                refine z_lload (pc := 76) hC 3 dX6_fixSome_76 rfl ?_
                refine z_lconst (pc := 78) (v := 0) hC dX6_fixSome_78 rfl ?_
                refine z_lcmp (pc := 79) hC dX6_fixSome_79 ?_
                refine z_if_eq (pc := 80) (tgt := 103) hC dX6_fixSome_80 (by decide) (fun h80 => ?_) (fun h80 => ?_)
                · skip
                  refine z_iconst (pc := 103) (v := 1) hC dX6_fixSome_103 rfl ?_
                  refine z_goto (pc := 104) (tgt := 108) hC dX6_fixSome_104 (by decide) ?_
                  refine z_istore (pc := 108) (lv' := [(9, .int 1), (8, .int (zlim (pp d) (sSt σ (kd σ p (fr + d)) (12 + x)) (sSt σ (kd σ p (fr + d)) (14 + x)) - pp d)), (7, .int (nI (fr + d))), (6, .int (nI (zcn (mRnd (z - fr) (mLo σ p x fr) (mHi σ p x fr) pp s).2 d))), (4, .long (fxSum (fxDev (mLo σ p x fr) (mHi σ p x fr) pp) s.2 (z - fr))), (0, .ref (g.1 95)), (1, .int (nI fr)), (2, .int (nI z)), (3, .int (nI x))]) hC dX6_fixSome_108 (by decide) rfl ?_
                  refine z_iload (pc := 110) hC 0 dX6_fixSome_110 rfl ?_
                  refine z_if_eq (pc := 112) (tgt := 158) hC dX6_fixSome_112 (by decide) (fun h112 => ?_) (fun h112 => ?_)
                  · skip
                    exact absurd h112 (by decide)
                  · skip
                    refine z_aload_n (pc := 115) hC 5 dX6_fixSome_115 rfl rfl z_isr_r ?_
                    refine z_gF (pc := 116) hC 6 12 (t := 106) rfl (z_lt hC (by decide)) rfl inX6 (by decide) rfl zm_4_85 rfl dX6_fixSome_116 ?_
                    refine z_iload (pc := 119) hC 2 dX6_fixSome_119 rfl ?_
                    refine z_iconst (pc := 121) (v := 1) hC dX6_fixSome_121 rfl ?_
                    refine z_zsN (pc := 122) hC (fr + d) rfl (z_lt hC (by decide)) rfl (by omega) (by decide) (Or.inr rfl) dX6_fixSome_122 ?_
                    refine z_aload_n (pc := 123) hC 5 dX6_fixSome_123 rfl rfl z_isr_r ?_
                    refine z_gF (pc := 124) hC 6 8 (t := 102) rfl (z_lt hC (by decide)) rfl inX6 (by decide) rfl zm_4_81 rfl dX6_fixSome_124 ?_
                    refine z_iconst (pc := 127) (v := 2) hC dX6_fixSome_127 rfl ?_
                    refine z_aload_n (pc := 128) hC 5 dX6_fixSome_128 rfl rfl z_isr_r ?_
                    refine z_gF (pc := 129) hC 6 4 (t := 99) rfl (z_lt hC (by decide)) rfl inX6 (by decide) rfl zm_4_77 rfl dX6_fixSome_129 ?_
                    refine z_iload (pc := 132) hC 2 dX6_fixSome_132 rfl ?_
                    refine z_iaN (pc := 134) hC (fr + d) (x := nI (kd σ p (fr + d))) rfl (z_lt hC (by decide)) rfl (by omega) (by decide) ((z_u_a _ _ (by decide)).trans ((hz.1 99 _ (by omega) (by omega)).trans (hk.2 _ hkn))) dX6_fixSome_134 ?_
                    refine z_imul (pc := 135) hC dX6_fixSome_135 ?_
                    refine z_iload_n (pc := 136) hC 8 dX6_fixSome_136 rfl rfl ?_
                    refine z_iadd (pc := 137) hC dX6_fixSome_137 ?_
                    refine z_aload_n (pc := 138) hC 5 dX6_fixSome_138 rfl rfl z_isr_r ?_
                    refine z_aload_n (pc := 139) hC 5 dX6_fixSome_139 rfl rfl z_isr_r ?_
                    refine z_gF (pc := 140) hC 6 4 (t := 99) rfl (z_lt hC (by decide)) rfl inX6 (by decide) rfl zm_4_77 rfl dX6_fixSome_140 ?_
                    refine z_iload (pc := 143) hC 2 dX6_fixSome_143 rfl ?_
                    refine z_iaN (pc := 145) hC (fr + d) (x := nI (kd σ p (fr + d))) rfl (z_lt hC (by decide)) rfl (by omega) (by decide) ((z_u_a _ _ (by decide)).trans ((hz.1 99 _ (by omega) (by omega)).trans (hk.2 _ hkn))) dX6_fixSome_145 ?_
                    refine z_iload_n (pc := 146) hC 8 dX6_fixSome_146 rfl rfl ?_
                    refine z_aload_n (pc := 147) hC 5 dX6_fixSome_147 rfl rfl z_isr_r ?_
                    refine z_gF (pc := 148) hC 6 14 (t := 108) rfl (z_lt hC (by decide)) rfl inX6 (by decide) rfl zm_4_87 rfl dX6_fixSome_148 ?_
                    refine z_iload (pc := 151) hC 2 dX6_fixSome_151 rfl ?_
                    refine z_iaN (pc := 153) hC (fr + d) (x := pp d) rfl (z_lt hC (by decide)) rfl (by omega) (by decide) ((z_u_a _ _ (by decide)).trans ((hz.1 108 _ (by omega) (by omega)).trans (hP8 d (by omega) g64))) dX6_fixSome_153 ?_
                    refine z_cV (pc := 154) (st := [.int ((2 * (nI (kd σ p (fr + d)))) + (nI x)), .ref (g.1 102)]) hC [.int (nI (kd σ p (fr + d))), .int (nI x), .int (pp d)] (kX6_limited C.2.1 g N (z_u Ir 106 (fr + d) 1) P J (hmr.u (show 96 ≠ 106 by decide)) (kd σ p (fr + d)) x (sKids_lt hm.1 (kd_mem hkn)).2.2.1 ha (pp d)) rfl (z_lt hC (by decide)) rfl zkX6_limited zm_4_232 ⟨rfl, rfl⟩ rfl rfl hRm ⟨Nat.le_of_ble_eq_true rfl, Nat.le_of_ble_eq_true rfl⟩ (Nat.le_of_ble_eq_true rfl) ⟨Nat.zero_le _, Nat.zero_le _⟩ dX6_fixSome_154 ?_
                    refine z_isN (pc := 157) hC (2 * (kd σ p (fr + d)) + x) rfl (z_lt hC (by decide)) (zix2 (kd σ p (fr + d)) x) (by omega) (by decide) dX6_fixSome_157 ?_
                    refine z_iload (pc := 158) hC 3 dX6_fixSome_158 rfl ?_
                    refine z_iload (pc := 160) hC 0 dX6_fixSome_160 rfl ?_
                    refine z_if_eq (pc := 162) (tgt := 169) hC dX6_fixSome_162 (by decide) (fun h162 => ?_) (fun h162 => ?_)
                    · skip
                      exact absurd h162 (by decide)
                    · skip
                      refine z_iconst (pc := 165) (v := 0) hC dX6_fixSome_165 rfl ?_
                      refine z_goto (pc := 166) (tgt := 170) hC dX6_fixSome_166 (by decide) ?_
                      refine z_iadd (pc := 170) hC dX6_fixSome_170 ?_
                      refine z_istore (pc := 171) (lv' := [(6, .int ((nI (zcn (mRnd (z - fr) (mLo σ p x fr) (mHi σ p x fr) pp s).2 d)) + 0)), (9, .int 1), (8, .int (zlim (pp d) (sSt σ (kd σ p (fr + d)) (12 + x)) (sSt σ (kd σ p (fr + d)) (14 + x)) - pp d)), (7, .int (nI (fr + d))), (4, .long (fxSum (fxDev (mLo σ p x fr) (mHi σ p x fr) pp) s.2 (z - fr))), (0, .ref (g.1 95)), (1, .int (nI fr)), (2, .int (nI z)), (3, .int (nI x))]) hC dX6_fixSome_171 (by decide) rfl ?_
                      refine z_iinc (pc := 173) (v := nI (fr + (d + 1))) (lv' := [(7, .int (nI (fr + (d + 1)))), (6, .int ((nI (zcn (mRnd (z - fr) (mLo σ p x fr) (mHi σ p x fr) pp s).2 d)) + 0)), (9, .int 1), (8, .int (zlim (pp d) (sSt σ (kd σ p (fr + d)) (12 + x)) (sSt σ (kd σ p (fr + d)) (14 + x)) - pp d)), (4, .long (fxSum (fxDev (mLo σ p x fr) (mHi σ p x fr) pp) s.2 (z - fr))), (0, .ref (g.1 95)), (1, .int (nI fr)), (2, .int (nI z)), (3, .int (nI x))]) hC 3 dX6_fixSome_173 rfl (nI_1 (fr + d)) (by decide) rfl ?_
                      refine z_goto (pc := 176) (tgt := 51) hC dX6_fixSome_176 (by decide) ?_
                      refine z_lvs (lv' := [(7, .int (nI (fr + (d + 1)))), (6, .int ((nI (zcn (mRnd (z - fr) (mLo σ p x fr) (mHi σ p x fr) pp s).2 d)) + 0)), (4, .long (fxSum (fxDev (mLo σ p x fr) (mHi σ p x fr) pp) s.2 (z - fr))), (0, .ref (g.1 95)), (1, .int (nI fr)), (2, .int (nI z)), (3, .int (nI x))]) [0, 1, 4, 5, 6, 7, 8] rfl ?_
                      have ef : fxFix (fxSum (fxDev (mLo σ p x fr) (mHi σ p x fr) pp) s.2 (z - fr)) ((fxDev (mLo σ p x fr) (mHi σ p x fr) pp) d) = true := by unfold fxFix; rw [if_pos (zlc_eq h80)]
                      have et : (mRnd (z - fr) (mLo σ p x fr) (mHi σ p x fr) pp s).2 d = true := by show (s.2 d || fxFix (fxSum (fxDev (mLo σ p x fr) (mHi σ p x fr) pp) s.2 (z - fr)) ((fxDev (mLo σ p x fr) (mHi σ p x fr) pp) d)) = true; rw [g64, ef]; rfl
                      have e1 : (mRnd (z - fr) (mLo σ p x fr) (mHi σ p x fr) pp s).1 d = pp d + (fxDev (mLo σ p x fr) (mHi σ p x fr) pp) d := if_pos ⟨g64, ef⟩
                      have K := ih (d + 1) _ (by omega) (zfs_s (a := 1) (b := zlim (pp d) (sSt σ (kd σ p (fr + d)) (12 + x)) (sSt σ (kd σ p (fr + d)) (14 + x))) hkn hz (by rw [et]; first | done | rfl) (by rw [e1]; exact (zpz _ _).symm)) (by omega)
                      rw [show nI (zcn (mRnd (z - fr) (mLo σ p x fr) (mHi σ p x fr) pp s).2 (d + 1)) = (nI (zcn (mRnd (z - fr) (mLo σ p x fr) (mHi σ p x fr) pp s).2 d)) + 0 from by rw [show zcn (mRnd (z - fr) (mLo σ p x fr) (mHi σ p x fr) pp s).2 (d + 1) = zcn (mRnd (z - fr) (mLo σ p x fr) (mHi σ p x fr) pp s).2 d + (if (mRnd (z - fr) (mLo σ p x fr) (mHi σ p x fr) pp s).2 d = true then 0 else 1) from rfl, et]; first | rfl | exact (Int32.add_zero _).symm | exact (nI_1 _).symm] at K
                      exact K
                · skip
                  refine z_lload (pc := 83) hC 3 dX6_fixSome_83 rfl ?_
                  refine z_lconst (pc := 85) (v := 0) hC dX6_fixSome_85 rfl ?_
                  refine z_lcmp (pc := 86) hC dX6_fixSome_86 ?_
                  refine z_if_le (pc := 87) (tgt := 98) hC dX6_fixSome_87 (by decide) (fun h87 => ?_) (fun h87 => ?_)
                  · skip
                    have g87 := Int32.not_lt.mpr h87
                    refine z_iload (pc := 98) hC 0 dX6_fixSome_98 rfl ?_
                    refine z_if_ge (pc := 100) (tgt := 107) hC dX6_fixSome_100 (by decide) (fun h100 => ?_) (fun h100 => ?_)
                    · skip
                      have g100 := Int32.not_lt.mpr h100
                      refine z_iconst (pc := 107) (v := 0) hC dX6_fixSome_107 rfl ?_
                      refine z_istore (pc := 108) (lv' := [(9, .int 0), (8, .int (zlim (pp d) (sSt σ (kd σ p (fr + d)) (12 + x)) (sSt σ (kd σ p (fr + d)) (14 + x)) - pp d)), (7, .int (nI (fr + d))), (6, .int (nI (zcn (mRnd (z - fr) (mLo σ p x fr) (mHi σ p x fr) pp s).2 d))), (4, .long (fxSum (fxDev (mLo σ p x fr) (mHi σ p x fr) pp) s.2 (z - fr))), (0, .ref (g.1 95)), (1, .int (nI fr)), (2, .int (nI z)), (3, .int (nI x))]) hC dX6_fixSome_108 (by decide) rfl ?_
                      refine z_iload (pc := 110) hC 0 dX6_fixSome_110 rfl ?_
                      refine z_if_eq (pc := 112) (tgt := 158) hC dX6_fixSome_112 (by decide) (fun h112 => ?_) (fun h112 => ?_)
                      · skip
                        refine z_iload (pc := 158) hC 3 dX6_fixSome_158 rfl ?_
                        refine z_iload (pc := 160) hC 0 dX6_fixSome_160 rfl ?_
                        refine z_if_eq (pc := 162) (tgt := 169) hC dX6_fixSome_162 (by decide) (fun h162 => ?_) (fun h162 => ?_)
                        · skip
                          refine z_iconst (pc := 169) (v := 1) hC dX6_fixSome_169 rfl ?_
                          refine z_iadd (pc := 170) hC dX6_fixSome_170 ?_
                          refine z_istore (pc := 171) (lv' := [(6, .int ((nI (zcn (mRnd (z - fr) (mLo σ p x fr) (mHi σ p x fr) pp s).2 d)) + 1)), (9, .int 0), (8, .int (zlim (pp d) (sSt σ (kd σ p (fr + d)) (12 + x)) (sSt σ (kd σ p (fr + d)) (14 + x)) - pp d)), (7, .int (nI (fr + d))), (4, .long (fxSum (fxDev (mLo σ p x fr) (mHi σ p x fr) pp) s.2 (z - fr))), (0, .ref (g.1 95)), (1, .int (nI fr)), (2, .int (nI z)), (3, .int (nI x))]) hC dX6_fixSome_171 (by decide) rfl ?_
                          refine z_iinc (pc := 173) (v := nI (fr + (d + 1))) (lv' := [(7, .int (nI (fr + (d + 1)))), (6, .int ((nI (zcn (mRnd (z - fr) (mLo σ p x fr) (mHi σ p x fr) pp s).2 d)) + 1)), (9, .int 0), (8, .int (zlim (pp d) (sSt σ (kd σ p (fr + d)) (12 + x)) (sSt σ (kd σ p (fr + d)) (14 + x)) - pp d)), (4, .long (fxSum (fxDev (mLo σ p x fr) (mHi σ p x fr) pp) s.2 (z - fr))), (0, .ref (g.1 95)), (1, .int (nI fr)), (2, .int (nI z)), (3, .int (nI x))]) hC 3 dX6_fixSome_173 rfl (nI_1 (fr + d)) (by decide) rfl ?_
                          refine z_goto (pc := 176) (tgt := 51) hC dX6_fixSome_176 (by decide) ?_
                          refine z_lvs (lv' := [(7, .int (nI (fr + (d + 1)))), (6, .int ((nI (zcn (mRnd (z - fr) (mLo σ p x fr) (mHi σ p x fr) pp s).2 d)) + 1)), (4, .long (fxSum (fxDev (mLo σ p x fr) (mHi σ p x fr) pp) s.2 (z - fr))), (0, .ref (g.1 95)), (1, .int (nI fr)), (2, .int (nI z)), (3, .int (nI x))]) [0, 1, 4, 5, 6, 7, 8] rfl ?_
                          have ef : fxFix (fxSum (fxDev (mLo σ p x fr) (mHi σ p x fr) pp) s.2 (z - fr)) ((fxDev (mLo σ p x fr) (mHi σ p x fr) pp) d) = false := by unfold fxFix; rw [if_neg (zlc_ne h80), if_neg (zlc_le h87), decide_eq_false (show ¬ (fxDev (mLo σ p x fr) (mHi σ p x fr) pp) d < 0 from Int32.not_lt.mpr h100)]
                          have et : (mRnd (z - fr) (mLo σ p x fr) (mHi σ p x fr) pp s).2 d = false := by show (s.2 d || fxFix (fxSum (fxDev (mLo σ p x fr) (mHi σ p x fr) pp) s.2 (z - fr)) ((fxDev (mLo σ p x fr) (mHi σ p x fr) pp) d)) = false; rw [g64, ef]; rfl
                          have e1 : (mRnd (z - fr) (mLo σ p x fr) (mHi σ p x fr) pp s).1 d = s.1 d := if_neg (fun q => by rw [ef] at q; cases q.2)
                          have K := ih (d + 1) Ir (by omega) (zfs_k hz ((hz.1 106 _ (by omega) (by omega)).trans ((hI6 d (by omega)).trans (by rw [g64, et]))) ((hz.1 102 _ (by omega) (zne hkn)).trans ((hI2 d (by omega)).trans e1.symm))) (by omega)
                          rw [show nI (zcn (mRnd (z - fr) (mLo σ p x fr) (mHi σ p x fr) pp s).2 (d + 1)) = (nI (zcn (mRnd (z - fr) (mLo σ p x fr) (mHi σ p x fr) pp s).2 d)) + 1 from by rw [show zcn (mRnd (z - fr) (mLo σ p x fr) (mHi σ p x fr) pp s).2 (d + 1) = zcn (mRnd (z - fr) (mLo σ p x fr) (mHi σ p x fr) pp s).2 d + (if (mRnd (z - fr) (mLo σ p x fr) (mHi σ p x fr) pp s).2 d = true then 0 else 1) from rfl, et]; first | rfl | exact (Int32.add_zero _).symm | exact (nI_1 _).symm] at K
                          exact K
                        · skip
                          exact absurd h162 (by decide)
                      · skip
                        exact absurd h112 (by decide)
                    · skip
                      have g100 := Int32.not_le.mp h100
                      refine z_iconst (pc := 103) (v := 1) hC dX6_fixSome_103 rfl ?_
                      refine z_goto (pc := 104) (tgt := 108) hC dX6_fixSome_104 (by decide) ?_
                      refine z_istore (pc := 108) (lv' := [(9, .int 1), (8, .int (zlim (pp d) (sSt σ (kd σ p (fr + d)) (12 + x)) (sSt σ (kd σ p (fr + d)) (14 + x)) - pp d)), (7, .int (nI (fr + d))), (6, .int (nI (zcn (mRnd (z - fr) (mLo σ p x fr) (mHi σ p x fr) pp s).2 d))), (4, .long (fxSum (fxDev (mLo σ p x fr) (mHi σ p x fr) pp) s.2 (z - fr))), (0, .ref (g.1 95)), (1, .int (nI fr)), (2, .int (nI z)), (3, .int (nI x))]) hC dX6_fixSome_108 (by decide) rfl ?_
                      refine z_iload (pc := 110) hC 0 dX6_fixSome_110 rfl ?_
                      refine z_if_eq (pc := 112) (tgt := 158) hC dX6_fixSome_112 (by decide) (fun h112 => ?_) (fun h112 => ?_)
                      · skip
                        exact absurd h112 (by decide)
                      · skip
                        refine z_aload_n (pc := 115) hC 5 dX6_fixSome_115 rfl rfl z_isr_r ?_
                        refine z_gF (pc := 116) hC 6 12 (t := 106) rfl (z_lt hC (by decide)) rfl inX6 (by decide) rfl zm_4_85 rfl dX6_fixSome_116 ?_
                        refine z_iload (pc := 119) hC 2 dX6_fixSome_119 rfl ?_
                        refine z_iconst (pc := 121) (v := 1) hC dX6_fixSome_121 rfl ?_
                        refine z_zsN (pc := 122) hC (fr + d) rfl (z_lt hC (by decide)) rfl (by omega) (by decide) (Or.inr rfl) dX6_fixSome_122 ?_
                        refine z_aload_n (pc := 123) hC 5 dX6_fixSome_123 rfl rfl z_isr_r ?_
                        refine z_gF (pc := 124) hC 6 8 (t := 102) rfl (z_lt hC (by decide)) rfl inX6 (by decide) rfl zm_4_81 rfl dX6_fixSome_124 ?_
                        refine z_iconst (pc := 127) (v := 2) hC dX6_fixSome_127 rfl ?_
                        refine z_aload_n (pc := 128) hC 5 dX6_fixSome_128 rfl rfl z_isr_r ?_
                        refine z_gF (pc := 129) hC 6 4 (t := 99) rfl (z_lt hC (by decide)) rfl inX6 (by decide) rfl zm_4_77 rfl dX6_fixSome_129 ?_
                        refine z_iload (pc := 132) hC 2 dX6_fixSome_132 rfl ?_
                        refine z_iaN (pc := 134) hC (fr + d) (x := nI (kd σ p (fr + d))) rfl (z_lt hC (by decide)) rfl (by omega) (by decide) ((z_u_a _ _ (by decide)).trans ((hz.1 99 _ (by omega) (by omega)).trans (hk.2 _ hkn))) dX6_fixSome_134 ?_
                        refine z_imul (pc := 135) hC dX6_fixSome_135 ?_
                        refine z_iload_n (pc := 136) hC 8 dX6_fixSome_136 rfl rfl ?_
                        refine z_iadd (pc := 137) hC dX6_fixSome_137 ?_
                        refine z_aload_n (pc := 138) hC 5 dX6_fixSome_138 rfl rfl z_isr_r ?_
                        refine z_aload_n (pc := 139) hC 5 dX6_fixSome_139 rfl rfl z_isr_r ?_
                        refine z_gF (pc := 140) hC 6 4 (t := 99) rfl (z_lt hC (by decide)) rfl inX6 (by decide) rfl zm_4_77 rfl dX6_fixSome_140 ?_
                        refine z_iload (pc := 143) hC 2 dX6_fixSome_143 rfl ?_
                        refine z_iaN (pc := 145) hC (fr + d) (x := nI (kd σ p (fr + d))) rfl (z_lt hC (by decide)) rfl (by omega) (by decide) ((z_u_a _ _ (by decide)).trans ((hz.1 99 _ (by omega) (by omega)).trans (hk.2 _ hkn))) dX6_fixSome_145 ?_
                        refine z_iload_n (pc := 146) hC 8 dX6_fixSome_146 rfl rfl ?_
                        refine z_aload_n (pc := 147) hC 5 dX6_fixSome_147 rfl rfl z_isr_r ?_
                        refine z_gF (pc := 148) hC 6 14 (t := 108) rfl (z_lt hC (by decide)) rfl inX6 (by decide) rfl zm_4_87 rfl dX6_fixSome_148 ?_
                        refine z_iload (pc := 151) hC 2 dX6_fixSome_151 rfl ?_
                        refine z_iaN (pc := 153) hC (fr + d) (x := pp d) rfl (z_lt hC (by decide)) rfl (by omega) (by decide) ((z_u_a _ _ (by decide)).trans ((hz.1 108 _ (by omega) (by omega)).trans (hP8 d (by omega) g64))) dX6_fixSome_153 ?_
                        refine z_cV (pc := 154) (st := [.int ((2 * (nI (kd σ p (fr + d)))) + (nI x)), .ref (g.1 102)]) hC [.int (nI (kd σ p (fr + d))), .int (nI x), .int (pp d)] (kX6_limited C.2.1 g N (z_u Ir 106 (fr + d) 1) P J (hmr.u (show 96 ≠ 106 by decide)) (kd σ p (fr + d)) x (sKids_lt hm.1 (kd_mem hkn)).2.2.1 ha (pp d)) rfl (z_lt hC (by decide)) rfl zkX6_limited zm_4_232 ⟨rfl, rfl⟩ rfl rfl hRm ⟨Nat.le_of_ble_eq_true rfl, Nat.le_of_ble_eq_true rfl⟩ (Nat.le_of_ble_eq_true rfl) ⟨Nat.zero_le _, Nat.zero_le _⟩ dX6_fixSome_154 ?_
                        refine z_isN (pc := 157) hC (2 * (kd σ p (fr + d)) + x) rfl (z_lt hC (by decide)) (zix2 (kd σ p (fr + d)) x) (by omega) (by decide) dX6_fixSome_157 ?_
                        refine z_iload (pc := 158) hC 3 dX6_fixSome_158 rfl ?_
                        refine z_iload (pc := 160) hC 0 dX6_fixSome_160 rfl ?_
                        refine z_if_eq (pc := 162) (tgt := 169) hC dX6_fixSome_162 (by decide) (fun h162 => ?_) (fun h162 => ?_)
                        · skip
                          exact absurd h162 (by decide)
                        · skip
                          refine z_iconst (pc := 165) (v := 0) hC dX6_fixSome_165 rfl ?_
                          refine z_goto (pc := 166) (tgt := 170) hC dX6_fixSome_166 (by decide) ?_
                          refine z_iadd (pc := 170) hC dX6_fixSome_170 ?_
                          refine z_istore (pc := 171) (lv' := [(6, .int ((nI (zcn (mRnd (z - fr) (mLo σ p x fr) (mHi σ p x fr) pp s).2 d)) + 0)), (9, .int 1), (8, .int (zlim (pp d) (sSt σ (kd σ p (fr + d)) (12 + x)) (sSt σ (kd σ p (fr + d)) (14 + x)) - pp d)), (7, .int (nI (fr + d))), (4, .long (fxSum (fxDev (mLo σ p x fr) (mHi σ p x fr) pp) s.2 (z - fr))), (0, .ref (g.1 95)), (1, .int (nI fr)), (2, .int (nI z)), (3, .int (nI x))]) hC dX6_fixSome_171 (by decide) rfl ?_
                          refine z_iinc (pc := 173) (v := nI (fr + (d + 1))) (lv' := [(7, .int (nI (fr + (d + 1)))), (6, .int ((nI (zcn (mRnd (z - fr) (mLo σ p x fr) (mHi σ p x fr) pp s).2 d)) + 0)), (9, .int 1), (8, .int (zlim (pp d) (sSt σ (kd σ p (fr + d)) (12 + x)) (sSt σ (kd σ p (fr + d)) (14 + x)) - pp d)), (4, .long (fxSum (fxDev (mLo σ p x fr) (mHi σ p x fr) pp) s.2 (z - fr))), (0, .ref (g.1 95)), (1, .int (nI fr)), (2, .int (nI z)), (3, .int (nI x))]) hC 3 dX6_fixSome_173 rfl (nI_1 (fr + d)) (by decide) rfl ?_
                          refine z_goto (pc := 176) (tgt := 51) hC dX6_fixSome_176 (by decide) ?_
                          refine z_lvs (lv' := [(7, .int (nI (fr + (d + 1)))), (6, .int ((nI (zcn (mRnd (z - fr) (mLo σ p x fr) (mHi σ p x fr) pp s).2 d)) + 0)), (4, .long (fxSum (fxDev (mLo σ p x fr) (mHi σ p x fr) pp) s.2 (z - fr))), (0, .ref (g.1 95)), (1, .int (nI fr)), (2, .int (nI z)), (3, .int (nI x))]) [0, 1, 4, 5, 6, 7, 8] rfl ?_
                          have ef : fxFix (fxSum (fxDev (mLo σ p x fr) (mHi σ p x fr) pp) s.2 (z - fr)) ((fxDev (mLo σ p x fr) (mHi σ p x fr) pp) d) = true := by unfold fxFix; rw [if_neg (zlc_ne h80), if_neg (zlc_le h87), decide_eq_true (show (fxDev (mLo σ p x fr) (mHi σ p x fr) pp) d < 0 from Int32.not_le.mp h100)]
                          have et : (mRnd (z - fr) (mLo σ p x fr) (mHi σ p x fr) pp s).2 d = true := by show (s.2 d || fxFix (fxSum (fxDev (mLo σ p x fr) (mHi σ p x fr) pp) s.2 (z - fr)) ((fxDev (mLo σ p x fr) (mHi σ p x fr) pp) d)) = true; rw [g64, ef]; rfl
                          have e1 : (mRnd (z - fr) (mLo σ p x fr) (mHi σ p x fr) pp s).1 d = pp d + (fxDev (mLo σ p x fr) (mHi σ p x fr) pp) d := if_pos ⟨g64, ef⟩
                          have K := ih (d + 1) _ (by omega) (zfs_s (a := 1) (b := zlim (pp d) (sSt σ (kd σ p (fr + d)) (12 + x)) (sSt σ (kd σ p (fr + d)) (14 + x))) hkn hz (by rw [et]; first | done | rfl) (by rw [e1]; exact (zpz _ _).symm)) (by omega)
                          rw [show nI (zcn (mRnd (z - fr) (mLo σ p x fr) (mHi σ p x fr) pp s).2 (d + 1)) = (nI (zcn (mRnd (z - fr) (mLo σ p x fr) (mHi σ p x fr) pp s).2 d)) + 0 from by rw [show zcn (mRnd (z - fr) (mLo σ p x fr) (mHi σ p x fr) pp s).2 (d + 1) = zcn (mRnd (z - fr) (mLo σ p x fr) (mHi σ p x fr) pp s).2 d + (if (mRnd (z - fr) (mLo σ p x fr) (mHi σ p x fr) pp s).2 d = true then 0 else 1) from rfl, et]; first | rfl | exact (Int32.add_zero _).symm | exact (nI_1 _).symm] at K
                          exact K
                  · skip
                    have g87 := Int32.not_le.mp h87
                    refine z_iload (pc := 90) hC 0 dX6_fixSome_90 rfl ?_
                    refine z_if_le (pc := 92) (tgt := 107) hC dX6_fixSome_92 (by decide) (fun h92 => ?_) (fun h92 => ?_)
                    · skip
                      have g92 := Int32.not_lt.mpr h92
                      refine z_iconst (pc := 107) (v := 0) hC dX6_fixSome_107 rfl ?_
                      refine z_istore (pc := 108) (lv' := [(9, .int 0), (8, .int (zlim (pp d) (sSt σ (kd σ p (fr + d)) (12 + x)) (sSt σ (kd σ p (fr + d)) (14 + x)) - pp d)), (7, .int (nI (fr + d))), (6, .int (nI (zcn (mRnd (z - fr) (mLo σ p x fr) (mHi σ p x fr) pp s).2 d))), (4, .long (fxSum (fxDev (mLo σ p x fr) (mHi σ p x fr) pp) s.2 (z - fr))), (0, .ref (g.1 95)), (1, .int (nI fr)), (2, .int (nI z)), (3, .int (nI x))]) hC dX6_fixSome_108 (by decide) rfl ?_
                      refine z_iload (pc := 110) hC 0 dX6_fixSome_110 rfl ?_
                      refine z_if_eq (pc := 112) (tgt := 158) hC dX6_fixSome_112 (by decide) (fun h112 => ?_) (fun h112 => ?_)
                      · skip
                        refine z_iload (pc := 158) hC 3 dX6_fixSome_158 rfl ?_
                        refine z_iload (pc := 160) hC 0 dX6_fixSome_160 rfl ?_
                        refine z_if_eq (pc := 162) (tgt := 169) hC dX6_fixSome_162 (by decide) (fun h162 => ?_) (fun h162 => ?_)
                        · skip
                          refine z_iconst (pc := 169) (v := 1) hC dX6_fixSome_169 rfl ?_
                          refine z_iadd (pc := 170) hC dX6_fixSome_170 ?_
                          refine z_istore (pc := 171) (lv' := [(6, .int ((nI (zcn (mRnd (z - fr) (mLo σ p x fr) (mHi σ p x fr) pp s).2 d)) + 1)), (9, .int 0), (8, .int (zlim (pp d) (sSt σ (kd σ p (fr + d)) (12 + x)) (sSt σ (kd σ p (fr + d)) (14 + x)) - pp d)), (7, .int (nI (fr + d))), (4, .long (fxSum (fxDev (mLo σ p x fr) (mHi σ p x fr) pp) s.2 (z - fr))), (0, .ref (g.1 95)), (1, .int (nI fr)), (2, .int (nI z)), (3, .int (nI x))]) hC dX6_fixSome_171 (by decide) rfl ?_
                          refine z_iinc (pc := 173) (v := nI (fr + (d + 1))) (lv' := [(7, .int (nI (fr + (d + 1)))), (6, .int ((nI (zcn (mRnd (z - fr) (mLo σ p x fr) (mHi σ p x fr) pp s).2 d)) + 1)), (9, .int 0), (8, .int (zlim (pp d) (sSt σ (kd σ p (fr + d)) (12 + x)) (sSt σ (kd σ p (fr + d)) (14 + x)) - pp d)), (4, .long (fxSum (fxDev (mLo σ p x fr) (mHi σ p x fr) pp) s.2 (z - fr))), (0, .ref (g.1 95)), (1, .int (nI fr)), (2, .int (nI z)), (3, .int (nI x))]) hC 3 dX6_fixSome_173 rfl (nI_1 (fr + d)) (by decide) rfl ?_
                          refine z_goto (pc := 176) (tgt := 51) hC dX6_fixSome_176 (by decide) ?_
                          refine z_lvs (lv' := [(7, .int (nI (fr + (d + 1)))), (6, .int ((nI (zcn (mRnd (z - fr) (mLo σ p x fr) (mHi σ p x fr) pp s).2 d)) + 1)), (4, .long (fxSum (fxDev (mLo σ p x fr) (mHi σ p x fr) pp) s.2 (z - fr))), (0, .ref (g.1 95)), (1, .int (nI fr)), (2, .int (nI z)), (3, .int (nI x))]) [0, 1, 4, 5, 6, 7, 8] rfl ?_
                          have ef : fxFix (fxSum (fxDev (mLo σ p x fr) (mHi σ p x fr) pp) s.2 (z - fr)) ((fxDev (mLo σ p x fr) (mHi σ p x fr) pp) d) = false := by unfold fxFix; rw [if_neg (zlc_ne h80), if_pos (zlc_lt (Int32.not_le.mp h87)), decide_eq_false (show ¬ 0 < (fxDev (mLo σ p x fr) (mHi σ p x fr) pp) d from Int32.not_lt.mpr h92)]
                          have et : (mRnd (z - fr) (mLo σ p x fr) (mHi σ p x fr) pp s).2 d = false := by show (s.2 d || fxFix (fxSum (fxDev (mLo σ p x fr) (mHi σ p x fr) pp) s.2 (z - fr)) ((fxDev (mLo σ p x fr) (mHi σ p x fr) pp) d)) = false; rw [g64, ef]; rfl
                          have e1 : (mRnd (z - fr) (mLo σ p x fr) (mHi σ p x fr) pp s).1 d = s.1 d := if_neg (fun q => by rw [ef] at q; cases q.2)
                          have K := ih (d + 1) Ir (by omega) (zfs_k hz ((hz.1 106 _ (by omega) (by omega)).trans ((hI6 d (by omega)).trans (by rw [g64, et]))) ((hz.1 102 _ (by omega) (zne hkn)).trans ((hI2 d (by omega)).trans e1.symm))) (by omega)
                          rw [show nI (zcn (mRnd (z - fr) (mLo σ p x fr) (mHi σ p x fr) pp s).2 (d + 1)) = (nI (zcn (mRnd (z - fr) (mLo σ p x fr) (mHi σ p x fr) pp s).2 d)) + 1 from by rw [show zcn (mRnd (z - fr) (mLo σ p x fr) (mHi σ p x fr) pp s).2 (d + 1) = zcn (mRnd (z - fr) (mLo σ p x fr) (mHi σ p x fr) pp s).2 d + (if (mRnd (z - fr) (mLo σ p x fr) (mHi σ p x fr) pp s).2 d = true then 0 else 1) from rfl, et]; first | rfl | exact (Int32.add_zero _).symm | exact (nI_1 _).symm] at K
                          exact K
                        · skip
                          exact absurd h162 (by decide)
                      · skip
                        exact absurd h112 (by decide)
                    · skip
                      have g92 := Int32.not_le.mp h92
                      refine z_goto (pc := 95) (tgt := 103) hC dX6_fixSome_95 (by decide) ?_
                      refine z_iconst (pc := 103) (v := 1) hC dX6_fixSome_103 rfl ?_
                      refine z_goto (pc := 104) (tgt := 108) hC dX6_fixSome_104 (by decide) ?_
                      refine z_istore (pc := 108) (lv' := [(9, .int 1), (8, .int (zlim (pp d) (sSt σ (kd σ p (fr + d)) (12 + x)) (sSt σ (kd σ p (fr + d)) (14 + x)) - pp d)), (7, .int (nI (fr + d))), (6, .int (nI (zcn (mRnd (z - fr) (mLo σ p x fr) (mHi σ p x fr) pp s).2 d))), (4, .long (fxSum (fxDev (mLo σ p x fr) (mHi σ p x fr) pp) s.2 (z - fr))), (0, .ref (g.1 95)), (1, .int (nI fr)), (2, .int (nI z)), (3, .int (nI x))]) hC dX6_fixSome_108 (by decide) rfl ?_
                      refine z_iload (pc := 110) hC 0 dX6_fixSome_110 rfl ?_
                      refine z_if_eq (pc := 112) (tgt := 158) hC dX6_fixSome_112 (by decide) (fun h112 => ?_) (fun h112 => ?_)
                      · skip
                        exact absurd h112 (by decide)
                      · skip
                        refine z_aload_n (pc := 115) hC 5 dX6_fixSome_115 rfl rfl z_isr_r ?_
                        refine z_gF (pc := 116) hC 6 12 (t := 106) rfl (z_lt hC (by decide)) rfl inX6 (by decide) rfl zm_4_85 rfl dX6_fixSome_116 ?_
                        refine z_iload (pc := 119) hC 2 dX6_fixSome_119 rfl ?_
                        refine z_iconst (pc := 121) (v := 1) hC dX6_fixSome_121 rfl ?_
                        refine z_zsN (pc := 122) hC (fr + d) rfl (z_lt hC (by decide)) rfl (by omega) (by decide) (Or.inr rfl) dX6_fixSome_122 ?_
                        refine z_aload_n (pc := 123) hC 5 dX6_fixSome_123 rfl rfl z_isr_r ?_
                        refine z_gF (pc := 124) hC 6 8 (t := 102) rfl (z_lt hC (by decide)) rfl inX6 (by decide) rfl zm_4_81 rfl dX6_fixSome_124 ?_
                        refine z_iconst (pc := 127) (v := 2) hC dX6_fixSome_127 rfl ?_
                        refine z_aload_n (pc := 128) hC 5 dX6_fixSome_128 rfl rfl z_isr_r ?_
                        refine z_gF (pc := 129) hC 6 4 (t := 99) rfl (z_lt hC (by decide)) rfl inX6 (by decide) rfl zm_4_77 rfl dX6_fixSome_129 ?_
                        refine z_iload (pc := 132) hC 2 dX6_fixSome_132 rfl ?_
                        refine z_iaN (pc := 134) hC (fr + d) (x := nI (kd σ p (fr + d))) rfl (z_lt hC (by decide)) rfl (by omega) (by decide) ((z_u_a _ _ (by decide)).trans ((hz.1 99 _ (by omega) (by omega)).trans (hk.2 _ hkn))) dX6_fixSome_134 ?_
                        refine z_imul (pc := 135) hC dX6_fixSome_135 ?_
                        refine z_iload_n (pc := 136) hC 8 dX6_fixSome_136 rfl rfl ?_
                        refine z_iadd (pc := 137) hC dX6_fixSome_137 ?_
                        refine z_aload_n (pc := 138) hC 5 dX6_fixSome_138 rfl rfl z_isr_r ?_
                        refine z_aload_n (pc := 139) hC 5 dX6_fixSome_139 rfl rfl z_isr_r ?_
                        refine z_gF (pc := 140) hC 6 4 (t := 99) rfl (z_lt hC (by decide)) rfl inX6 (by decide) rfl zm_4_77 rfl dX6_fixSome_140 ?_
                        refine z_iload (pc := 143) hC 2 dX6_fixSome_143 rfl ?_
                        refine z_iaN (pc := 145) hC (fr + d) (x := nI (kd σ p (fr + d))) rfl (z_lt hC (by decide)) rfl (by omega) (by decide) ((z_u_a _ _ (by decide)).trans ((hz.1 99 _ (by omega) (by omega)).trans (hk.2 _ hkn))) dX6_fixSome_145 ?_
                        refine z_iload_n (pc := 146) hC 8 dX6_fixSome_146 rfl rfl ?_
                        refine z_aload_n (pc := 147) hC 5 dX6_fixSome_147 rfl rfl z_isr_r ?_
                        refine z_gF (pc := 148) hC 6 14 (t := 108) rfl (z_lt hC (by decide)) rfl inX6 (by decide) rfl zm_4_87 rfl dX6_fixSome_148 ?_
                        refine z_iload (pc := 151) hC 2 dX6_fixSome_151 rfl ?_
                        refine z_iaN (pc := 153) hC (fr + d) (x := pp d) rfl (z_lt hC (by decide)) rfl (by omega) (by decide) ((z_u_a _ _ (by decide)).trans ((hz.1 108 _ (by omega) (by omega)).trans (hP8 d (by omega) g64))) dX6_fixSome_153 ?_
                        refine z_cV (pc := 154) (st := [.int ((2 * (nI (kd σ p (fr + d)))) + (nI x)), .ref (g.1 102)]) hC [.int (nI (kd σ p (fr + d))), .int (nI x), .int (pp d)] (kX6_limited C.2.1 g N (z_u Ir 106 (fr + d) 1) P J (hmr.u (show 96 ≠ 106 by decide)) (kd σ p (fr + d)) x (sKids_lt hm.1 (kd_mem hkn)).2.2.1 ha (pp d)) rfl (z_lt hC (by decide)) rfl zkX6_limited zm_4_232 ⟨rfl, rfl⟩ rfl rfl hRm ⟨Nat.le_of_ble_eq_true rfl, Nat.le_of_ble_eq_true rfl⟩ (Nat.le_of_ble_eq_true rfl) ⟨Nat.zero_le _, Nat.zero_le _⟩ dX6_fixSome_154 ?_
                        refine z_isN (pc := 157) hC (2 * (kd σ p (fr + d)) + x) rfl (z_lt hC (by decide)) (zix2 (kd σ p (fr + d)) x) (by omega) (by decide) dX6_fixSome_157 ?_
                        refine z_iload (pc := 158) hC 3 dX6_fixSome_158 rfl ?_
                        refine z_iload (pc := 160) hC 0 dX6_fixSome_160 rfl ?_
                        refine z_if_eq (pc := 162) (tgt := 169) hC dX6_fixSome_162 (by decide) (fun h162 => ?_) (fun h162 => ?_)
                        · skip
                          exact absurd h162 (by decide)
                        · skip
                          refine z_iconst (pc := 165) (v := 0) hC dX6_fixSome_165 rfl ?_
                          refine z_goto (pc := 166) (tgt := 170) hC dX6_fixSome_166 (by decide) ?_
                          refine z_iadd (pc := 170) hC dX6_fixSome_170 ?_
                          refine z_istore (pc := 171) (lv' := [(6, .int ((nI (zcn (mRnd (z - fr) (mLo σ p x fr) (mHi σ p x fr) pp s).2 d)) + 0)), (9, .int 1), (8, .int (zlim (pp d) (sSt σ (kd σ p (fr + d)) (12 + x)) (sSt σ (kd σ p (fr + d)) (14 + x)) - pp d)), (7, .int (nI (fr + d))), (4, .long (fxSum (fxDev (mLo σ p x fr) (mHi σ p x fr) pp) s.2 (z - fr))), (0, .ref (g.1 95)), (1, .int (nI fr)), (2, .int (nI z)), (3, .int (nI x))]) hC dX6_fixSome_171 (by decide) rfl ?_
                          refine z_iinc (pc := 173) (v := nI (fr + (d + 1))) (lv' := [(7, .int (nI (fr + (d + 1)))), (6, .int ((nI (zcn (mRnd (z - fr) (mLo σ p x fr) (mHi σ p x fr) pp s).2 d)) + 0)), (9, .int 1), (8, .int (zlim (pp d) (sSt σ (kd σ p (fr + d)) (12 + x)) (sSt σ (kd σ p (fr + d)) (14 + x)) - pp d)), (4, .long (fxSum (fxDev (mLo σ p x fr) (mHi σ p x fr) pp) s.2 (z - fr))), (0, .ref (g.1 95)), (1, .int (nI fr)), (2, .int (nI z)), (3, .int (nI x))]) hC 3 dX6_fixSome_173 rfl (nI_1 (fr + d)) (by decide) rfl ?_
                          refine z_goto (pc := 176) (tgt := 51) hC dX6_fixSome_176 (by decide) ?_
                          refine z_lvs (lv' := [(7, .int (nI (fr + (d + 1)))), (6, .int ((nI (zcn (mRnd (z - fr) (mLo σ p x fr) (mHi σ p x fr) pp s).2 d)) + 0)), (4, .long (fxSum (fxDev (mLo σ p x fr) (mHi σ p x fr) pp) s.2 (z - fr))), (0, .ref (g.1 95)), (1, .int (nI fr)), (2, .int (nI z)), (3, .int (nI x))]) [0, 1, 4, 5, 6, 7, 8] rfl ?_
                          have ef : fxFix (fxSum (fxDev (mLo σ p x fr) (mHi σ p x fr) pp) s.2 (z - fr)) ((fxDev (mLo σ p x fr) (mHi σ p x fr) pp) d) = true := by unfold fxFix; rw [if_neg (zlc_ne h80), if_pos (zlc_lt (Int32.not_le.mp h87)), decide_eq_true (show 0 < (fxDev (mLo σ p x fr) (mHi σ p x fr) pp) d from Int32.not_le.mp h92)]
                          have et : (mRnd (z - fr) (mLo σ p x fr) (mHi σ p x fr) pp s).2 d = true := by show (s.2 d || fxFix (fxSum (fxDev (mLo σ p x fr) (mHi σ p x fr) pp) s.2 (z - fr)) ((fxDev (mLo σ p x fr) (mHi σ p x fr) pp) d)) = true; rw [g64, ef]; rfl
                          have e1 : (mRnd (z - fr) (mLo σ p x fr) (mHi σ p x fr) pp s).1 d = pp d + (fxDev (mLo σ p x fr) (mHi σ p x fr) pp) d := if_pos ⟨g64, ef⟩
                          have K := ih (d + 1) _ (by omega) (zfs_s (a := 1) (b := zlim (pp d) (sSt σ (kd σ p (fr + d)) (12 + x)) (sSt σ (kd σ p (fr + d)) (14 + x))) hkn hz (by rw [et]; first | done | rfl) (by rw [e1]; exact (zpz _ _).symm)) (by omega)
                          rw [show nI (zcn (mRnd (z - fr) (mLo σ p x fr) (mHi σ p x fr) pp s).2 (d + 1)) = (nI (zcn (mRnd (z - fr) (mLo σ p x fr) (mHi σ p x fr) pp s).2 d)) + 0 from by rw [show zcn (mRnd (z - fr) (mLo σ p x fr) (mHi σ p x fr) pp s).2 (d + 1) = zcn (mRnd (z - fr) (mLo σ p x fr) (mHi σ p x fr) pp s).2 d + (if (mRnd (z - fr) (mLo σ p x fr) (mHi σ p x fr) pp s).2 d = true then 0 else 1) from rfl, et]; first | rfl | exact (Int32.add_zero _).symm | exact (nI_1 _).symm] at K
                          exact K
        exact L51 41 0 _ (Nat.zero_le _) zfs_0 (by have := kn_le hm.1 p; omega)
      · skip
        have g9 := Int32.not_le.mp h9
        have hdz : fr + d < z := zc_lt h9 (by have := kn_le hm.1 p; omega) (by have := kn_le hm.1 p; omega)
        have hkn : fr + d < kn σ p := by omega
        have hk40 := (sKids_lt hm.1 (kd_mem hkn)).2.1
        have hkm := kn_le hm.1 p
        refine z_lload (pc := 12) hC 1 dX6_fixSome_12 rfl ?_
        refine z_aload_n (pc := 14) hC 2 dX6_fixSome_14 rfl rfl z_isr_r ?_
        refine z_gF (pc := 15) hC 6 12 (t := 106) rfl (z_lt hC (by decide)) rfl inX6 (by decide) rfl zm_4_85 rfl dX6_fixSome_15 ?_
        refine z_iload (pc := 18) hC 0 dX6_fixSome_18 rfl ?_
        refine z_zaN (pc := 20) hC (fr + d) (x := zB (s.2 d)) rfl (z_lt hC (by decide)) rfl (by omega) (by decide) (hI6 d (by omega)) dX6_fixSome_20 ?_
        refine z_if_eq (pc := 21) (tgt := 28) hC dX6_fixSome_21 (by decide) (fun h21 => ?_) (fun h21 => ?_)
        · skip
          have g21 := zB_f h21
          refine z_aload_n (pc := 28) hC 2 dX6_fixSome_28 rfl rfl z_isr_r ?_
          refine z_iload (pc := 29) hC 0 dX6_fixSome_29 rfl ?_
          refine z_iload_n (pc := 31) hC 5 dX6_fixSome_31 rfl rfl ?_
          refine z_cV (pc := 32) (st := [.long (fxSum (fxDev (mLo σ p x fr) (mHi σ p x fr) pp) s.2 d)]) hC [.int (nI (fr + d)), .int (nI x)] (kX6_deviation C.2.1 g N I P J hm p hk (fr + d) x hkn ha (pp d) (hP8 d (by omega) g21)) rfl (z_lt hC (by decide)) rfl zkX6_deviation zm_5_51 ⟨rfl, rfl⟩ rfl rfl hRm ⟨Nat.le_of_ble_eq_true rfl, Nat.le_of_ble_eq_true rfl⟩ (Nat.le_of_ble_eq_true rfl) ⟨Nat.zero_le _, Nat.zero_le _⟩ dX6_fixSome_32 ?_
          refine z_i2l (pc := 35) hC dX6_fixSome_35 ?_
          refine z_ladd (pc := 36) hC dX6_fixSome_36 ?_
          refine z_eqL (show (fxSum (fxDev (mLo σ p x fr) (mHi σ p x fr) pp) s.2 d) + ((zlim (pp d) (sSt σ (kd σ p (fr + d)) (12 + x)) (sSt σ (kd σ p (fr + d)) (14 + x)) - pp d).toInt64) = fxSum (fxDev (mLo σ p x fr) (mHi σ p x fr) pp) s.2 (d + 1) from by show _ = fxSum (fxDev (mLo σ p x fr) (mHi σ p x fr) pp) s.2 d + (if s.2 d = true then 0 else ((fxDev (mLo σ p x fr) (mHi σ p x fr) pp) d).toInt64); rw [g21]; rfl) ?_
          refine z_lstore (pc := 37) (lv' := [(4, .long (fxSum (fxDev (mLo σ p x fr) (mHi σ p x fr) pp) s.2 (d + 1))), (6, .int (nI (fr + d))), (0, .ref (g.1 95)), (1, .int (nI fr)), (2, .int (nI z)), (3, .int (nI x))]) hC dX6_fixSome_37 (by decide) rfl ?_
          refine z_iinc (pc := 39) (v := nI (fr + (d + 1))) (lv' := [(6, .int (nI (fr + (d + 1)))), (4, .long (fxSum (fxDev (mLo σ p x fr) (mHi σ p x fr) pp) s.2 (d + 1))), (0, .ref (g.1 95)), (1, .int (nI fr)), (2, .int (nI z)), (3, .int (nI x))]) hC 1 dX6_fixSome_39 rfl (nI_1 (fr + d)) (by decide) rfl ?_
          refine z_goto (pc := 42) (tgt := 6) hC dX6_fixSome_42 (by decide) ?_
          exact ih (d + 1) (by omega) (by omega)
        · skip
          have g21 := zB_t h21
          refine z_lconst (pc := 24) (v := 0) hC dX6_fixSome_24 rfl ?_
          refine z_goto (pc := 25) (tgt := 36) hC dX6_fixSome_25 (by decide) ?_
          refine z_ladd (pc := 36) hC dX6_fixSome_36 ?_
          refine z_eqL (show (fxSum (fxDev (mLo σ p x fr) (mHi σ p x fr) pp) s.2 d) + 0 = fxSum (fxDev (mLo σ p x fr) (mHi σ p x fr) pp) s.2 (d + 1) from by show _ = fxSum (fxDev (mLo σ p x fr) (mHi σ p x fr) pp) s.2 d + (if s.2 d = true then 0 else ((fxDev (mLo σ p x fr) (mHi σ p x fr) pp) d).toInt64); rw [g21]; rfl) ?_
          refine z_lstore (pc := 37) (lv' := [(4, .long (fxSum (fxDev (mLo σ p x fr) (mHi σ p x fr) pp) s.2 (d + 1))), (6, .int (nI (fr + d))), (0, .ref (g.1 95)), (1, .int (nI fr)), (2, .int (nI z)), (3, .int (nI x))]) hC dX6_fixSome_37 (by decide) rfl ?_
          refine z_iinc (pc := 39) (v := nI (fr + (d + 1))) (lv' := [(6, .int (nI (fr + (d + 1)))), (4, .long (fxSum (fxDev (mLo σ p x fr) (mHi σ p x fr) pp) s.2 (d + 1))), (0, .ref (g.1 95)), (1, .int (nI fr)), (2, .int (nI z)), (3, .int (nI x))]) hC 1 dX6_fixSome_39 rfl (nI_1 (fr + d)) (by decide) rfl ?_
          refine z_goto (pc := 42) (tgt := 6) hC dX6_fixSome_42 (by decide) ?_
          exact ih (d + 1) (by omega) (by omega)
  exact L6 41 0 (Nat.zero_le _) (by have := kn_le hm.1 p; omega)
end ZM14
