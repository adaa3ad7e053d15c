section ZM11
theorem nI_sub {a b : Nat} (h : a ≤ b) : nI b - nI a = nI (b - a) := by
  have e : nI b = nI (b - a) + nI a := by rw [nI_add, show b - a + a = b by omega]
  rw [e, Int32.add_sub_cancel]
/-- places along an axis of the boxes fr .. fr + d - 1 of p -/
def zjs (σ : zS) (p x fr d : Nat) (val : Nat → Int32) (I Ir : Nat → Nat → Int32) : Prop := (∀ q j, ¬ (q = 103 ∧ ∃ i, fr ≤ i ∧ i < fr + d ∧ j = 2 * kd σ p i + x) → Ir q j = I q j) ∧ ∀ i, fr ≤ i → i < fr + d → Ir 103 (2 * kd σ p i + x) = val i
theorem zjs_0 {σ : zS} {p x fr : Nat} {val : Nat → Int32} {I : Nat → Nat → Int32} : zjs σ p x fr 0 val I I := ⟨fun _ _ _ => rfl, fun i h1 h2 => absurd h2 (by omega)⟩
theorem zjs_s {σ : zS} {p x fr d : Nat} (hk : fr + d < kn σ p) {val : Nat → Int32} {I Ir : Nat → Nat → Int32} (h : zjs σ p x fr d val I Ir) {w : Int32} (hw : w = val (fr + d)) : zjs σ p x fr (d + 1) val I (z_u Ir 103 (2 * kd σ p (fr + d) + x) w) := by
  refine ⟨fun q j hq => ?_, fun i h1 h2 => ?_⟩
  · rw [z_u_r2 _ (fun z => hq ⟨z.1, fr + d, by omega, by omega, z.2⟩)]
    exact h.1 q j (fun z => hq ⟨z.1, by obtain ⟨_, i, z1, z2, z3⟩ := z; exact ⟨i, z1, by omega, z3⟩⟩)
  · by_cases e : i = fr + d
    · rw [e, z_u_s, hw]
    · have ne : kd σ p i ≠ kd σ p (fr + d) := fun z => e (kd_inj (by omega) hk z)
      rw [z_u_b _ _ (by omega)]
      exact h.2 i h1 (by omega)
theorem sju_rng {σ : zS} (hw : sWF σ) {p : Nat} (he : sEx σ p = true) : 0 ≤ sSt σ p 2 ∧ sSt σ p 2 ≤ 4 := by
  have q := sSt_rng hw he (k := 2) (by decide)
  have e0 : (z_st 0 2).toInt = 0 := by decide
  have e1 : (z_st 1 2).toInt = 4 := by decide
  rw [e0, e1] at q
  have z0 : (0 : Int32).toInt = 0 := rfl
  have z1 : (4 : Int32).toInt = 4 := rfl
  rw [zi_le, zi_le]
  omega
set_option maxHeartbeats 4000000 in
set_option maxRecDepth 100000 in
theorem kX6_justify (lx : Launch) (g : zG) (N : Nat) (I : Nat → Nat → Int32) (P : Nat → Nat → Option Nat) (J : Nat → Nat → Int64) {σ : zS} (hm : zMd σ I) (p : Nat) (he : sEx σ p = true) (hk : zKq σ p I) (fr z x : Nat) (hfz : fr ≤ z) (hzk : z ≤ kn σ p) (ha : x < 2) (v : Nat → Int32) (hS : ∀ i, fr ≤ i → i < z → I 102 (2 * kd σ p i + x) = v (kd σ p i)) (W X0 : Int32) (hW : I 102 (2 * p + x) = W) (hX : I 103 (2 * p + x) = X0) : z_Ct lx yX6_justify (zT yX6_justify cX6_justify 10 (Option.none : Option FieldType)) ({ frames := 2, cells := 0, slots := 0, locals := 44 } : Room) g N I P J [.ref (g.1 95), .int (nI p), .int (nI fr), .int (nI z), .int (nI x)] (fun r I' P' J' => r = none ∧ P' = P ∧ J' = J ∧ zjs σ p x fr (z - fr) (fun i => X0 + sSt σ p 5 + sAlo σ p v (sIn W (sSt σ p 5)) fr z i) I I') 0 0 := by
  refine z_of (by decide) (Nat.le_of_ble_eq_true rfl) (lv0 := [(0, .ref (g.1 95)), (1, .int (nI p)), (2, .int (nI fr)), (3, .int (nI z)), (4, .int (nI x))]) rfl ?_
  intro C hlx hC hE hRm
  have hC : zX C cX6_justify 10 RX6 (zT yX6_justify cX6_justify 10 (Option.none : Option FieldType)) g N := hC
  refine z_aload_n (pc := 0) hC 0 dX6_justify_0 rfl rfl z_isr_r ?_
  refine z_iload_n (pc := 1) hC 1 dX6_justify_1 rfl rfl ?_
  refine z_iload (pc := 2) hC 4 dX6_justify_2 rfl ?_
  refine z_cV (pc := 4) (st := []) hC [.int (nI p), .int (nI x)] (kX6_inner C.2.1 g N I P J hm p x he ha W hW) rfl (z_lt hC (by decide)) rfl zkX6_inner zm_5_4 ⟨rfl, rfl⟩ rfl rfl hRm ⟨Nat.le_of_ble_eq_true rfl, Nat.le_of_ble_eq_true rfl⟩ (Nat.le_of_ble_eq_true rfl) ⟨Nat.zero_le _, Nat.zero_le _⟩ dX6_justify_4 ?_
  refine z_istore (pc := 7) (lv' := [(5, .int (sIn W (sSt σ p 5))), (0, .ref (g.1 95)), (1, .int (nI p)), (2, .int (nI fr)), (3, .int (nI z)), (4, .int (nI x))]) hC dX6_justify_7 (by decide) rfl ?_
  refine z_aload_n (pc := 9) hC 1 dX6_justify_9 rfl rfl z_isr_r ?_
  refine z_iload_n (pc := 10) hC 2 dX6_justify_10 rfl rfl ?_
  refine z_iload_n (pc := 11) hC 4 dX6_justify_11 rfl rfl ?_
  refine z_iload_n (pc := 12) hC 3 dX6_justify_12 rfl rfl ?_
  refine z_isub (pc := 13) hC dX6_justify_13 ?_
  refine z_eqI (show (nI z) - (nI fr) = nI (z - fr) from nI_sub hfz) ?_
  refine z_cV (pc := 14) (st := []) hC [.int (nI p), .int (nI (z - fr))] (kX6_gapsOf C.2.1 g N I P J hm p he (nI (z - fr))) rfl (z_lt hC (by decide)) rfl zkX6_gapsOf zm_4_224 ⟨rfl, rfl⟩ rfl rfl hRm ⟨Nat.le_of_ble_eq_true rfl, Nat.le_of_ble_eq_true rfl⟩ (Nat.le_of_ble_eq_true rfl) ⟨Nat.zero_le _, Nat.zero_le _⟩ dX6_justify_14 ?_
  refine z_istore (pc := 17) (lv' := [(6, .int (zgap (nI (z - fr)) (sSt σ p 4))), (5, .int (sIn W (sSt σ p 5))), (0, .ref (g.1 95)), (1, .int (nI p)), (2, .int (nI fr)), (3, .int (nI z)), (4, .int (nI x))]) hC dX6_justify_17 (by decide) rfl ?_
  refine z_iload_n (pc := 19) hC 4 dX6_justify_19 rfl rfl ?_
  refine z_istore (pc := 20) (lv' := [(7, .int (nI fr)), (6, .int (zgap (nI (z - fr)) (sSt σ p 4))), (5, .int (sIn W (sSt σ p 5))), (0, .ref (g.1 95)), (1, .int (nI p)), (2, .int (nI fr)), (3, .int (nI z)), (4, .int (nI x))]) hC dX6_justify_20 (by decide) rfl ?_
  have L22 : ∀ (zf : Nat) (d : Nat) (hd : d ≤ z - fr), z - fr - d < zf → zJ C g N 10 0 0 I P J 22 [(7, .int (nI (fr + d))), (6, .int (zgap (nI (z - fr)) (sSt σ p 4) + zsum (fun j => sO σ v (kd σ p (fr + j))) d)), (5, .int (sIn W (sSt σ p 5))), (0, .ref (g.1 95)), (1, .int (nI p)), (2, .int (nI fr)), (3, .int (nI z)), (4, .int (nI x))] [] := by
    intro zf
    induction zf with
    | zero =>
      intro d hd hn2
      exact absurd hn2 (Nat.not_lt_zero _)
    | succ zf ih =>
      intro d hd hn2
      refine z_iload (pc := 22) hC 0 dX6_justify_22 rfl ?_
      refine z_iload_n (pc := 24) hC 6 dX6_justify_24 rfl rfl ?_
      refine z_icmp_ge (pc := 25) (tgt := 67) hC dX6_justify_25 (by decide) (fun h25 => ?_) (fun h25 => ?_)
      · skip
        have g25 := Int32.not_lt.mpr h25
        have hge := zc_ge h25 (by have := kn_le hm.1 p; omega) (by have := kn_le hm.1 p; omega)
        have ed : d = z - fr := by omega
        subst ed
        refine z_aload_n (pc := 67) hC 3 dX6_justify_67 rfl rfl z_isr_r ?_
        refine z_gF (pc := 68) hC 6 9 (t := 103) rfl (z_lt hC (by decide)) rfl inX6 (by decide) rfl zm_4_82 rfl dX6_justify_68 ?_
        refine z_iconst (pc := 71) (v := 2) hC dX6_justify_71 rfl ?_
        refine z_iload_n (pc := 72) hC 4 dX6_justify_72 rfl rfl ?_
        refine z_imul (pc := 73) hC dX6_justify_73 ?_
        refine z_iload (pc := 74) hC 7 dX6_justify_74 rfl ?_
        refine z_iadd (pc := 76) hC dX6_justify_76 ?_
        refine z_iaN (pc := 77) hC (2 * p + x) (x := X0) rfl (z_lt hC (by decide)) (zix2 p x) (by have := (hm.lt he).2; omega) (by decide) hX dX6_justify_77 ?_
        refine z_aload_n (pc := 78) hC 3 dX6_justify_78 rfl rfl z_isr_r ?_
        refine z_iload_n (pc := 79) hC 4 dX6_justify_79 rfl rfl ?_
        refine z_iconst (pc := 80) (v := 5) hC dX6_justify_80 rfl ?_
        refine z_cV (pc := 81) (st := [.int X0]) hC [.int (nI p), .int 5] (kX6_of C.2.1 g N I P J hm p 5 he (by decide) 5 rfl) rfl (z_lt hC (by decide)) rfl zkX6_of zm_4_162 ⟨rfl, rfl⟩ rfl rfl hRm ⟨Nat.le_of_ble_eq_true rfl, Nat.le_of_ble_eq_true rfl⟩ (Nat.le_of_ble_eq_true rfl) ⟨Nat.zero_le _, Nat.zero_le _⟩ dX6_justify_81 ?_
        refine z_iadd (pc := 84) hC dX6_justify_84 ?_
        refine z_istore (pc := 85) (lv' := [(7, .int (X0 + (sSt σ p 5))), (6, .int (zgap (nI (z - fr)) (sSt σ p 4) + zsum (fun j => sO σ v (kd σ p (fr + j))) (z - fr))), (5, .int (sIn W (sSt σ p 5))), (0, .ref (g.1 95)), (1, .int (nI p)), (2, .int (nI fr)), (3, .int (nI z)), (4, .int (nI x))]) hC dX6_justify_85 (by decide) rfl ?_
        refine z_iload_n (pc := 87) hC 5 dX6_justify_87 rfl rfl ?_
        refine z_istore (pc := 88) (lv' := [(8, .int (nI fr)), (7, .int (X0 + (sSt σ p 5))), (6, .int (zgap (nI (z - fr)) (sSt σ p 4) + zsum (fun j => sO σ v (kd σ p (fr + j))) (z - fr))), (5, .int (sIn W (sSt σ p 5))), (0, .ref (g.1 95)), (1, .int (nI p)), (2, .int (nI fr)), (3, .int (nI z)), (4, .int (nI x))]) hC dX6_justify_88 (by decide) rfl ?_
        have L90 : ∀ (zf : Nat) (d : Nat) (Ir : Nat → Nat → Int32) (hd : d ≤ z - fr) (hz : zjs σ p x fr d (fun i => X0 + sSt σ p 5 + sAlo σ p v (sIn W (sSt σ p 5)) fr z i) I Ir), z - fr - d < zf → zJ C g N 10 0 0 Ir P J 90 [(8, .int (nI (fr + d))), (7, .int (X0 + sSt σ p 5 + zsum (fun j => sO σ v (kd σ p (fr + j)) + sSt σ p 4) d)), (6, .int (zgap (nI (z - fr)) (sSt σ p 4) + zsum (fun j => sO σ v (kd σ p (fr + j))) (z - fr))), (5, .int (sIn W (sSt σ p 5))), (0, .ref (g.1 95)), (1, .int (nI p)), (2, .int (nI fr)), (3, .int (nI z)), (4, .int (nI x))] [] := by
          intro zf
          induction zf with
          | zero =>
            intro d Ir hd hz hn2
            exact absurd hn2 (Nat.not_lt_zero _)
          | succ zf ih =>
            intro d Ir hd hz hn2
            have hmr := hm.eq (fun k => hz.1 96 k (by omega))
            refine z_iload (pc := 90) hC 0 dX6_justify_90 rfl ?_
            refine z_iload_n (pc := 92) hC 7 dX6_justify_92 rfl rfl ?_
            refine z_icmp_ge (pc := 93) (tgt := 186) hC dX6_justify_93 (by decide) (fun h93 => ?_) (fun h93 => ?_)
            · skip
              have g93 := Int32.not_lt.mpr h93
              have hge := zc_ge h93 (by have := kn_le hm.1 p; omega) (by have := kn_le hm.1 p; omega)
              have ed : d = z - fr := by omega
              exact z_vret (pc := 186) hC hE dX6_justify_186 (by rw [ed] at hz; exact ⟨rfl, rfl, rfl, hz⟩)
            · skip
              have g93 := Int32.not_le.mp h93
              have hdz : fr + d < z := zc_lt h93 (by have := kn_le hm.1 p; omega) (by have := kn_le hm.1 p; omega)
              have hkn : fr + d < kn σ p := by omega
              have hk40 := (sKids_lt hm.1 (kd_mem hkn)).2.1
              have hkm := kn_le hm.1 p
              refine z_aload_n (pc := 96) hC 4 dX6_justify_96 rfl rfl z_isr_r ?_
              refine z_gF (pc := 97) hC 6 4 (t := 99) rfl (z_lt hC (by decide)) rfl inX6 (by decide) rfl zm_4_77 rfl dX6_justify_97 ?_
              refine z_iload (pc := 100) hC 0 dX6_justify_100 rfl ?_
              refine z_iaN (pc := 102) hC (fr + d) (x := nI (kd σ p (fr + d))) rfl (z_lt hC (by decide)) rfl (by omega) (by decide) ((hz.1 99 _ (by omega)).trans (hk.2 _ hkn)) dX6_justify_102 ?_
              refine z_istore (pc := 103) (lv' := [(9, .int (nI (kd σ p (fr + d)))), (8, .int (nI (fr + d))), (7, .int (X0 + sSt σ p 5 + zsum (fun j => sO σ v (kd σ p (fr + j)) + sSt σ p 4) d)), (6, .int (zgap (nI (z - fr)) (sSt σ p 4) + zsum (fun j => sO σ v (kd σ p (fr + j))) (z - fr))), (5, .int (sIn W (sSt σ p 5))), (0, .ref (g.1 95)), (1, .int (nI p)), (2, .int (nI fr)), (3, .int (nI z)), (4, .int (nI x))]) hC dX6_justify_103 (by decide) rfl ?_
              refine z_aload_n (pc := 105) hC 5 dX6_justify_105 rfl rfl z_isr_r ?_
              refine z_gF (pc := 106) hC 6 9 (t := 103) rfl (z_lt hC (by decide)) rfl inX6 (by decide) rfl zm_4_82 rfl dX6_justify_106 ?_
              refine z_iconst (pc := 109) (v := 2) hC dX6_justify_109 rfl ?_
              refine z_iload (pc := 110) hC 0 dX6_justify_110 rfl ?_
              refine z_imul (pc := 112) hC dX6_justify_112 ?_
              refine z_iload (pc := 113) hC 9 dX6_justify_113 rfl ?_
              refine z_iadd (pc := 115) hC dX6_justify_115 ?_
              refine z_iload (pc := 116) hC 2 dX6_justify_116 rfl ?_
              refine z_aload_n (pc := 118) hC 5 dX6_justify_118 rfl rfl z_isr_r ?_
              refine z_iload_n (pc := 119) hC 6 dX6_justify_119 rfl rfl ?_
              refine z_iconst (pc := 120) (v := 2) hC dX6_justify_120 rfl ?_
              refine z_cV (pc := 121) (st := [.int (X0 + sSt σ p 5 + zsum (fun j => sO σ v (kd σ p (fr + j)) + sSt σ p 4) d), .int ((2 * (nI (kd σ p (fr + d)))) + (nI x)), .ref (g.1 103)]) hC [.int (nI p), .int 2] (kX6_of C.2.1 g N Ir P J hmr p 2 he (by decide) 2 rfl) rfl (z_lt hC (by decide)) rfl zkX6_of zm_4_162 ⟨rfl, rfl⟩ rfl rfl hRm ⟨Nat.le_of_ble_eq_true rfl, Nat.le_of_ble_eq_true rfl⟩ (Nat.le_of_ble_eq_true rfl) ⟨Nat.zero_le _, Nat.zero_le _⟩ dX6_justify_121 ?_
              refine z_iload (pc := 124) hC 4 dX6_justify_124 rfl ?_
              refine z_iload (pc := 126) hC 3 dX6_justify_126 rfl ?_
              refine z_isub (pc := 128) hC dX6_justify_128 ?_
              refine z_iload (pc := 129) hC 1 dX6_justify_129 rfl ?_
              refine z_iload_n (pc := 131) hC 7 dX6_justify_131 rfl rfl ?_
              refine z_isub (pc := 132) hC dX6_justify_132 ?_
              refine z_eqI (show (nI (fr + d)) - (nI fr) = nI d from (nI_sub (Nat.le_add_right fr d)).trans (congrArg nI (Nat.add_sub_cancel_left _ _))) ?_
              refine z_iload_n (pc := 133) hC 8 dX6_justify_133 rfl rfl ?_
              refine z_iload_n (pc := 134) hC 7 dX6_justify_134 rfl rfl ?_
              refine z_isub (pc := 135) hC dX6_justify_135 ?_
              refine z_eqI (show (nI z) - (nI fr) = nI (z - fr) from nI_sub hfz) ?_
              refine z_cS (pc := 136) (st := [.int (X0 + sSt σ p 5 + zsum (fun j => sO σ v (kd σ p (fr + j)) + sSt σ p 4) d), .int ((2 * (nI (kd σ p (fr + d)))) + (nI x)), .ref (g.1 103)]) hC [.int (sSt σ p 2), .int ((sIn W (sSt σ p 5)) - (zgap (nI (z - fr)) (sSt σ p 4) + zsum (fun j => sO σ v (kd σ p (fr + j))) (z - fr))), .int (nI d), .int (nI (z - fr))] (kX6_moved C.2.1 g N Ir P J (sSt σ p 2) ((sIn W (sSt σ p 5)) - (zgap (nI (z - fr)) (sSt σ p 4) + zsum (fun j => sO σ v (kd σ p (fr + j))) (z - fr))) (sju_rng hm.1 he) d (z - fr) (by omega) (by omega)) zkX6_moved zm_5_79 ⟨rfl, rfl⟩ rfl rfl hRm ⟨Nat.le_of_ble_eq_true rfl, Nat.le_of_ble_eq_true rfl⟩ (Nat.le_of_ble_eq_true rfl) ⟨Nat.zero_le _, Nat.zero_le _⟩ dX6_justify_136 ?_
              refine z_iadd (pc := 139) hC dX6_justify_139 ?_
              refine z_aload_n (pc := 140) hC 5 dX6_justify_140 rfl rfl z_isr_r ?_
              refine z_iload (pc := 141) hC 0 dX6_justify_141 rfl ?_
              refine z_bipush (pc := 143) (v := 6) hC dX6_justify_143 rfl ?_
              refine z_cV (pc := 145) (st := [.int ((X0 + sSt σ p 5 + zsum (fun j => sO σ v (kd σ p (fr + j)) + sSt σ p 4) d) + (sJu (sSt σ p 2) ((sIn W (sSt σ p 5)) - (zgap (nI (z - fr)) (sSt σ p 4) + zsum (fun j => sO σ v (kd σ p (fr + j))) (z - fr))) d (z - fr))), .int ((2 * (nI (kd σ p (fr + d)))) + (nI x)), .ref (g.1 103)]) hC [.int (nI (kd σ p (fr + d))), .int 6] (kX6_of C.2.1 g N Ir P J hmr (kd σ p (fr + d)) 6 (sKids_lt hm.1 (kd_mem hkn)).2.2.1 (by decide) 6 rfl) rfl (z_lt hC (by decide)) rfl zkX6_of zm_4_162 ⟨rfl, rfl⟩ rfl rfl hRm ⟨Nat.le_of_ble_eq_true rfl, Nat.le_of_ble_eq_true rfl⟩ (Nat.le_of_ble_eq_true rfl) ⟨Nat.zero_le _, Nat.zero_le _⟩ dX6_justify_145 ?_
              refine z_iadd (pc := 148) hC dX6_justify_148 ?_
              refine z_isN (pc := 149) hC (2 * (kd σ p (fr + d)) + x) rfl (z_lt hC (by decide)) (zix2 (kd σ p (fr + d)) x) (by omega) (by decide) dX6_justify_149 ?_
              refine z_iload (pc := 150) hC 2 dX6_justify_150 rfl ?_
              refine z_aload_n (pc := 152) hC 5 dX6_justify_152 rfl rfl z_isr_r ?_
              refine z_iload (pc := 153) hC 0 dX6_justify_153 rfl ?_
              refine z_aload_n (pc := 155) hC 5 dX6_justify_155 rfl rfl z_isr_r ?_
              refine z_gF (pc := 156) hC 6 8 (t := 102) rfl (z_lt hC (by decide)) rfl inX6 (by decide) rfl zm_4_81 rfl dX6_justify_156 ?_
              refine z_iconst (pc := 159) (v := 2) hC dX6_justify_159 rfl ?_
              refine z_iload (pc := 160) hC 0 dX6_justify_160 rfl ?_
              refine z_imul (pc := 162) hC dX6_justify_162 ?_
              refine z_iload (pc := 163) hC 9 dX6_justify_163 rfl ?_
              refine z_iadd (pc := 165) hC dX6_justify_165 ?_
              refine z_iaN (pc := 166) hC (2 * (kd σ p (fr + d)) + x) (x := v (kd σ p (fr + d))) rfl (z_lt hC (by decide)) (zix2 (kd σ p (fr + d)) x) (by omega) (by decide) ((z_u_a _ _ (by decide)).trans ((hz.1 102 _ (by omega)).trans (hS _ (Nat.le_add_right _ _) hdz))) dX6_justify_166 ?_
              refine z_cV (pc := 167) (st := [.int (X0 + sSt σ p 5 + zsum (fun j => sO σ v (kd σ p (fr + j)) + sSt σ p 4) d)]) hC [.int (nI (kd σ p (fr + d))), .int (v (kd σ p (fr + d)))] (kX6_outer C.2.1 g N (z_u Ir 103 (2 * (kd σ p (fr + d)) + x) (((X0 + sSt σ p 5 + zsum (fun j => sO σ v (kd σ p (fr + j)) + sSt σ p 4) d) + (sJu (sSt σ p 2) ((sIn W (sSt σ p 5)) - (zgap (nI (z - fr)) (sSt σ p 4) + zsum (fun j => sO σ v (kd σ p (fr + j))) (z - fr))) d (z - fr))) + (sSt σ (kd σ p (fr + d)) 6))) P J (hmr.u (show 96 ≠ 103 by decide)) (kd σ p (fr + d)) (sKids_lt hm.1 (kd_mem hkn)).2.2.1 (v (kd σ p (fr + d)))) rfl (z_lt hC (by decide)) rfl zkX6_outer zm_4_220 ⟨rfl, rfl⟩ rfl rfl hRm ⟨Nat.le_of_ble_eq_true rfl, Nat.le_of_ble_eq_true rfl⟩ (Nat.le_of_ble_eq_true rfl) ⟨Nat.zero_le _, Nat.zero_le _⟩ dX6_justify_167 ?_
              refine z_aload_n (pc := 170) hC 5 dX6_justify_170 rfl rfl z_isr_r ?_
              refine z_iload_n (pc := 171) hC 6 dX6_justify_171 rfl rfl ?_
              refine z_iconst (pc := 172) (v := 4) hC dX6_justify_172 rfl ?_
              refine z_cV (pc := 173) (st := [.int ((v (kd σ p (fr + d))) + 2 * sSt σ (kd σ p (fr + d)) 6), .int (X0 + sSt σ p 5 + zsum (fun j => sO σ v (kd σ p (fr + j)) + sSt σ p 4) d)]) hC [.int (nI p), .int 4] (kX6_of C.2.1 g N (z_u Ir 103 (2 * (kd σ p (fr + d)) + x) (((X0 + sSt σ p 5 + zsum (fun j => sO σ v (kd σ p (fr + j)) + sSt σ p 4) d) + (sJu (sSt σ p 2) ((sIn W (sSt σ p 5)) - (zgap (nI (z - fr)) (sSt σ p 4) + zsum (fun j => sO σ v (kd σ p (fr + j))) (z - fr))) d (z - fr))) + (sSt σ (kd σ p (fr + d)) 6))) P J (hmr.u (show 96 ≠ 103 by decide)) p 4 he (by decide) 4 rfl) rfl (z_lt hC (by decide)) rfl zkX6_of zm_4_162 ⟨rfl, rfl⟩ rfl rfl hRm ⟨Nat.le_of_ble_eq_true rfl, Nat.le_of_ble_eq_true rfl⟩ (Nat.le_of_ble_eq_true rfl) ⟨Nat.zero_le _, Nat.zero_le _⟩ dX6_justify_173 ?_
              refine z_iadd (pc := 176) hC dX6_justify_176 ?_
              refine z_iadd (pc := 177) hC dX6_justify_177 ?_
              refine z_eqI (show (X0 + sSt σ p 5 + zsum (fun j => sO σ v (kd σ p (fr + j)) + sSt σ p 4) d) + (((v (kd σ p (fr + d))) + 2 * sSt σ (kd σ p (fr + d)) 6) + (sSt σ p 4)) = X0 + sSt σ p 5 + zsum (fun j => sO σ v (kd σ p (fr + j)) + sSt σ p 4) (d + 1) from Int32.add_assoc _ _ _) ?_
              refine z_istore (pc := 178) (lv' := [(7, .int (X0 + sSt σ p 5 + zsum (fun j => sO σ v (kd σ p (fr + j)) + sSt σ p 4) (d + 1))), (9, .int (nI (kd σ p (fr + d)))), (8, .int (nI (fr + d))), (6, .int (zgap (nI (z - fr)) (sSt σ p 4) + zsum (fun j => sO σ v (kd σ p (fr + j))) (z - fr))), (5, .int (sIn W (sSt σ p 5))), (0, .ref (g.1 95)), (1, .int (nI p)), (2, .int (nI fr)), (3, .int (nI z)), (4, .int (nI x))]) hC dX6_justify_178 (by decide) rfl ?_
              refine z_iinc (pc := 180) (v := nI (fr + (d + 1))) (lv' := [(8, .int (nI (fr + (d + 1)))), (7, .int (X0 + sSt σ p 5 + zsum (fun j => sO σ v (kd σ p (fr + j)) + sSt σ p 4) (d + 1))), (9, .int (nI (kd σ p (fr + d)))), (6, .int (zgap (nI (z - fr)) (sSt σ p 4) + zsum (fun j => sO σ v (kd σ p (fr + j))) (z - fr))), (5, .int (sIn W (sSt σ p 5))), (0, .ref (g.1 95)), (1, .int (nI p)), (2, .int (nI fr)), (3, .int (nI z)), (4, .int (nI x))]) hC 2 dX6_justify_180 rfl (nI_1 (fr + d)) (by decide) rfl ?_
              refine z_goto (pc := 183) (tgt := 90) hC dX6_justify_183 (by decide) ?_
              refine z_lvs (lv' := [(8, .int (nI (fr + (d + 1)))), (7, .int (X0 + sSt σ p 5 + zsum (fun j => sO σ v (kd σ p (fr + j)) + sSt σ p 4) (d + 1))), (6, .int (zgap (nI (z - fr)) (sSt σ p 4) + zsum (fun j => sO σ v (kd σ p (fr + j))) (z - fr))), (5, .int (sIn W (sSt σ p 5))), (0, .ref (g.1 95)), (1, .int (nI p)), (2, .int (nI fr)), (3, .int (nI z)), (4, .int (nI x))]) [0, 1, 3, 4, 5, 6, 7, 8, 9] rfl ?_
              refine ih (d + 1) _ (by omega) (zjs_s hkn hz ?_) (by omega)
              show _ = X0 + sSt σ p 5 + sAlo σ p v (sIn W (sSt σ p 5)) fr z (fr + d)
              unfold sAlo sBf sFr
              rw [Nat.add_sub_cancel_left, zss, Int32.add_comm (zsum _ (z - fr)) (zgap _ _)]
              simp only [Int32.add_assoc]
        have KK := L90 41 0 _ (Nat.zero_le _) zjs_0 (by have := kn_le hm.1 p; omega)
        rw [show X0 + sSt σ p 5 + zsum (fun j => sO σ v (kd σ p (fr + j)) + sSt σ p 4) 0 = X0 + sSt σ p 5 from Int32.add_zero _] at KK
        exact KK
      · skip
        have g25 := Int32.not_le.mp h25
        have hdz : fr + d < z := zc_lt h25 (by have := kn_le hm.1 p; omega) (by have := kn_le hm.1 p; omega)
        have hkn : fr + d < kn σ p := by omega
        have hk40 := (sKids_lt hm.1 (kd_mem hkn)).2.1
        have hkm := kn_le hm.1 p
        refine z_iload (pc := 28) hC 1 dX6_justify_28 rfl ?_
        refine z_aload_n (pc := 30) hC 3 dX6_justify_30 rfl rfl z_isr_r ?_
        refine z_aload_n (pc := 31) hC 3 dX6_justify_31 rfl rfl z_isr_r ?_
        refine z_gF (pc := 32) hC 6 4 (t := 99) rfl (z_lt hC (by decide)) rfl inX6 (by decide) rfl zm_4_77 rfl dX6_justify_32 ?_
        refine z_iload (pc := 35) hC 0 dX6_justify_35 rfl ?_
        refine z_iaN (pc := 37) hC (fr + d) (x := nI (kd σ p (fr + d))) rfl (z_lt hC (by decide)) rfl (by omega) (by decide) ((hk.2 _ hkn)) dX6_justify_37 ?_
        refine z_aload_n (pc := 38) hC 3 dX6_justify_38 rfl rfl z_isr_r ?_
        refine z_gF (pc := 39) hC 6 8 (t := 102) rfl (z_lt hC (by decide)) rfl inX6 (by decide) rfl zm_4_81 rfl dX6_justify_39 ?_
        refine z_iconst (pc := 42) (v := 2) hC dX6_justify_42 rfl ?_
        refine z_aload_n (pc := 43) hC 3 dX6_justify_43 rfl rfl z_isr_r ?_
        refine z_gF (pc := 44) hC 6 4 (t := 99) rfl (z_lt hC (by decide)) rfl inX6 (by decide) rfl zm_4_77 rfl dX6_justify_44 ?_
        refine z_iload (pc := 47) hC 0 dX6_justify_47 rfl ?_
        refine z_iaN (pc := 49) hC (fr + d) (x := nI (kd σ p (fr + d))) rfl (z_lt hC (by decide)) rfl (by omega) (by decide) ((hk.2 _ hkn)) dX6_justify_49 ?_
        refine z_imul (pc := 50) hC dX6_justify_50 ?_
        refine z_iload (pc := 51) hC 7 dX6_justify_51 rfl ?_
        refine z_iadd (pc := 53) hC dX6_justify_53 ?_
        refine z_iaN (pc := 54) hC (2 * (kd σ p (fr + d)) + x) (x := v (kd σ p (fr + d))) rfl (z_lt hC (by decide)) (zix2 (kd σ p (fr + d)) x) (by omega) (by decide) (hS _ (Nat.le_add_right _ _) hdz) dX6_justify_54 ?_
        refine z_cV (pc := 55) (st := [.int (zgap (nI (z - fr)) (sSt σ p 4) + zsum (fun j => sO σ v (kd σ p (fr + j))) d)]) hC [.int (nI (kd σ p (fr + d))), .int (v (kd σ p (fr + d)))] (kX6_outer C.2.1 g N I P J hm (kd σ p (fr + d)) (sKids_lt hm.1 (kd_mem hkn)).2.2.1 (v (kd σ p (fr + d)))) rfl (z_lt hC (by decide)) rfl zkX6_outer zm_4_220 ⟨rfl, rfl⟩ rfl rfl hRm ⟨Nat.le_of_ble_eq_true rfl, Nat.le_of_ble_eq_true rfl⟩ (Nat.le_of_ble_eq_true rfl) ⟨Nat.zero_le _, Nat.zero_le _⟩ dX6_justify_55 ?_
        refine z_eqI (show (v (kd σ p (fr + d))) + 2 * sSt σ (kd σ p (fr + d)) 6 = sO σ v (kd σ p (fr + d)) from rfl) ?_
        refine z_iadd (pc := 58) hC dX6_justify_58 ?_
        refine z_eqI (show (zgap (nI (z - fr)) (sSt σ p 4) + zsum (fun j => sO σ v (kd σ p (fr + j))) d) + (sO σ v (kd σ p (fr + d))) = zgap (nI (z - fr)) (sSt σ p 4) + zsum (fun j => sO σ v (kd σ p (fr + j))) (d + 1) from Int32.add_assoc _ _ _) ?_
        refine z_istore (pc := 59) (lv' := [(6, .int (zgap (nI (z - fr)) (sSt σ p 4) + zsum (fun j => sO σ v (kd σ p (fr + j))) (d + 1))), (7, .int (nI (fr + d))), (5, .int (sIn W (sSt σ p 5))), (0, .ref (g.1 95)), (1, .int (nI p)), (2, .int (nI fr)), (3, .int (nI z)), (4, .int (nI x))]) hC dX6_justify_59 (by decide) rfl ?_
        refine z_iinc (pc := 61) (v := nI (fr + (d + 1))) (lv' := [(7, .int (nI (fr + (d + 1)))), (6, .int (zgap (nI (z - fr)) (sSt σ p 4) + zsum (fun j => sO σ v (kd σ p (fr + j))) (d + 1))), (5, .int (sIn W (sSt σ p 5))), (0, .ref (g.1 95)), (1, .int (nI p)), (2, .int (nI fr)), (3, .int (nI z)), (4, .int (nI x))]) hC 1 dX6_justify_61 rfl (nI_1 (fr + d)) (by decide) rfl ?_
        refine z_goto (pc := 64) (tgt := 22) hC dX6_justify_64 (by decide) ?_
        exact ih (d + 1) (by omega) (by omega)
  have KK := L22 41 0 (Nat.zero_le _) (by have := kn_le hm.1 p; omega)
  rw [show zgap (nI (z - fr)) (sSt σ p 4) + zsum (fun j => sO σ v (kd σ p (fr + j))) 0 = zgap (nI (z - fr)) (sSt σ p 4) from Int32.add_zero _] at KK
  exact KK
end ZM11
