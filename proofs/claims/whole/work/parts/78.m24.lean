section ZM24
abbrev zbt (a c : Bool) : Int32 := zB a + zB2 c
theorem zbt_0 (a c : Bool) : zbt a c ||| 0 = zbt a c := by cases a <;> cases c <;> rfl
theorem zbt_1 (a c : Bool) : zbt a c ||| (1 + 0) = zbt true c := by cases a <;> cases c <;> rfl
theorem zbt_2 (a c : Bool) : zbt a c ||| (1 + 1) = zbt a true := by cases a <;> cases c <;> rfl
set_option maxHeartbeats 4000000 in
set_option maxRecDepth 100000 in
theorem kX6_overflow (lx : Launch) (g : zG) (N : Nat) (I : Nat → Nat → Int32) (P : Nat → Nat → Option Nat) (J : Nat → Nat → Int64) {σ : zS} (hm : zMd σ I) (x : Int32) : z_Ct lx yX6_overflow (zT yX6_overflow cX6_overflow 6 (Option.some FieldType.int)) ({ frames := 9, cells := 0, slots := 0, locals := 216 } : Room) g N I P J [.ref (g.1 95), .int x] (zGm σ x (sOvf σ) I P J) 0 0 := by
  refine z_of (by decide) (Nat.le_of_ble_eq_true rfl) (lv0 := [(0, .ref (g.1 95)), (1, .int x)]) rfl ?_
  intro C hlx hC hE hRm
  have hC : zX C cX6_overflow 6 RX6 (zT yX6_overflow cX6_overflow 6 (Option.some FieldType.int)) g N := hC
  refine z_aload_n (pc := 0) hC 0 dX6_overflow_0 rfl rfl z_isr_r ?_
  refine z_iload_n (pc := 1) hC 1 dX6_overflow_1 rfl rfl ?_
  refine z_callV (pc := 2) (st := []) hC [.int x] (kX6_hasLayout C.2.1 g N I P J hm x) rfl (z_lt hC (by decide)) rfl zkX6_hasLayout zm_4_196 ⟨rfl, rfl⟩ rfl rfl hRm ⟨Nat.le_of_ble_eq_true rfl, Nat.le_of_ble_eq_true rfl⟩ (Nat.le_of_ble_eq_true rfl) ⟨Nat.zero_le _, Nat.zero_le _⟩ dX6_overflow_2 ?_
  intro v I1 P1 J1 hq
  obtain ⟨c, hv, hct, hcf, hm1, hk1⟩ := hq
  subst hv
  show zJ C g N 6 0 0 I1 P1 J1 5 [(0, .ref (g.1 95)), (1, .int x)] [.int (zB c)]
  refine z_if_ne (pc := 5) (tgt := 10) hC dX6_overflow_5 (by decide) (fun h5 => ?_) (fun h5 => ?_)
  · skip
    have g5 := zB_t h5
    obtain ⟨b, rfl, hb, he, hs, h3, har, hsh⟩ := hct g5
    refine z_aload_n (pc := 10) hC 0 dX6_overflow_10 rfl rfl z_isr_r ?_
    refine z_iload_n (pc := 11) hC 1 dX6_overflow_11 rfl rfl ?_
    refine z_cV (pc := 12) (st := []) hC [.int (nI b)] (kX6_isLeaf C.2.1 g N I1 P1 J1 hm1 b he) rfl (z_lt hC (by decide)) rfl zkX6_isLeaf zm_4_212 ⟨rfl, rfl⟩ rfl rfl hRm ⟨Nat.le_of_ble_eq_true rfl, Nat.le_of_ble_eq_true rfl⟩ (Nat.le_of_ble_eq_true rfl) ⟨Nat.zero_le _, Nat.zero_le _⟩ dX6_overflow_12 ?_
    refine z_if_eq (pc := 15) (tgt := 79) hC dX6_overflow_15 (by decide) (fun h15 => ?_) (fun h15 => ?_)
    · skip
      have g15 := zB_f h15
      refine z_aload_n (pc := 79) hC 0 dX6_overflow_79 rfl rfl z_isr_r ?_
      refine z_iload_n (pc := 80) hC 1 dX6_overflow_80 rfl rfl ?_
      refine z_callV (pc := 81) (st := []) hC [.int (nI b)] ((kX6_layKids C.2.1 g N I1 P1 J1 hm1 b he)) rfl (z_lt hC (by decide)) rfl zkX6_layKids zm_4_154 ⟨rfl, rfl⟩ rfl rfl hRm ⟨Nat.le_of_ble_eq_true rfl, Nat.le_of_ble_eq_true rfl⟩ (Nat.le_of_ble_eq_true rfl) ⟨Nat.zero_le _, Nat.zero_le _⟩ dX6_overflow_81 ?_
      intro v I2 P2 J2 hq
      obtain ⟨hv, hP2, hJ2, hfr, hkq⟩ := hq
      subst hv
      rw [hP2, hJ2]
      have hm2 := hm1.eq (fun k => hfr 96 k (by decide) (by omega))
      have hcon := znot_f g15
      have har2 : mAr σ I2 := fun c hc => by
        rw [hfr 101 _ (by decide) (by omega), hfr 101 _ (by decide) (by omega), hfr 103 _ (by decide) (by omega), hfr 103 _ (by decide) (by omega), hfr 102 _ (by decide) (by omega), hfr 102 _ (by decide) (by omega), hfr 105 _ (by decide) (by omega), hfr 104 _ (by decide) (by omega)]
        exact har c hc
      have hkm := kn_le hm.1 b
      show zJ C g N 6 0 0 I2 P1 J1 84 [(0, .ref (g.1 95)), (1, .int (nI b))] []
      refine z_iconst (pc := 84) (v := 0) hC dX6_overflow_84 rfl ?_
      refine z_istore_n (pc := 85) (lv' := [(2, .int 0), (0, .ref (g.1 95)), (1, .int (nI b))]) hC dX6_overflow_85 rfl (by decide) rfl ?_
      refine z_iconst (pc := 86) (v := 0) hC dX6_overflow_86 rfl ?_
      refine z_istore_n (pc := 87) (lv' := [(3, .int 0), (2, .int 0), (0, .ref (g.1 95)), (1, .int (nI b))]) hC dX6_overflow_87 rfl (by decide) rfl ?_
      have L88 : ∀ (zf : Nat) (k : Nat) (hkk : k ≤ kn σ b), kn σ b - k < zf → zJ C g N 6 0 0 I2 P1 J1 88 [(3, .int (nI k)), (2, .int (zbt (zor (sOvX σ b) k) (zor (sOvY σ b) k))), (0, .ref (g.1 95)), (1, .int (nI b))] [] := by
        intro zf
        induction zf with
        | zero =>
          intro k hkk hn2
          exact absurd hn2 (Nat.not_lt_zero _)
        | succ zf ih =>
          intro k hkk hn2
          refine z_iload_n (pc := 88) hC 0 dX6_overflow_88 rfl rfl ?_
          refine z_aload_n (pc := 89) hC 2 dX6_overflow_89 rfl rfl z_isr_r ?_
          refine z_gI (pc := 90) hC 6 5 (x := nI (kn σ b)) rfl (z_lt hC (by decide)) rfl inX6 (by decide) rfl zm_4_78 hkq.1 dX6_overflow_90 ?_
          refine z_icmp_ge (pc := 93) (tgt := 182) hC dX6_overflow_93 (by decide) (fun h93 => ?_) (fun h93 => ?_)
          · skip
            have g93 := Int32.not_lt.mpr h93
            have ek : k = kn σ b := Nat.le_antisymm hkk (zc_ge h93 (by omega) (by omega))
            refine z_iload_n (pc := 182) hC 1 dX6_overflow_182 rfl rfl ?_
            exact z_iret (pc := 183) hC hE dX6_overflow_183 ⟨Or.inr ⟨b, rfl, hb, he, hs, by subst ek; unfold sOvf; rw [if_pos hcon]; rfl, (hfr 95 3 (by decide) (by decide)).trans h3⟩, hm2, ⟨hk1.1, hk1.2.1, fun q j hq => (hfr q j (by omega) (by omega)).trans (hk1.2.2 q j hq)⟩⟩
          · skip
            have g93 := Int32.not_le.mp h93
            have hkn := zc_lt h93 (by omega) (by omega)
            have hk40 := (sKids_lt hm.1 (kd_mem hkn)).2.1
            have hks := sKids_sh hm.1 hs (kd_mem hkn)
            refine z_iconst (pc := 96) (v := 0) hC dX6_overflow_96 rfl ?_
            refine z_istore (pc := 97) (lv' := [(4, .int 0), (3, .int (nI k)), (2, .int (zbt (zor (sOvX σ b) k) (zor (sOvY σ b) k))), (0, .ref (g.1 95)), (1, .int (nI b))]) hC dX6_overflow_97 (by decide) rfl ?_
            refine z_iload (pc := 99) hC 0 dX6_overflow_99 rfl ?_
            refine z_iconst (pc := 101) (v := 2) hC dX6_overflow_101 rfl ?_
            refine z_icmp_ge (pc := 102) (tgt := 176) hC dX6_overflow_102 (by decide) (fun h102 => ?_) (fun h102 => ?_)
            · skip
              have g102 := Int32.not_lt.mpr h102
              exact absurd h102 (by decide)
            · skip
              have g102 := Int32.not_le.mp h102
              refine z_aload_n (pc := 105) hC 3 dX6_overflow_105 rfl rfl z_isr_r ?_
              refine z_aload_n (pc := 106) hC 3 dX6_overflow_106 rfl rfl z_isr_r ?_
              refine z_gF (pc := 107) hC 6 4 (t := 99) rfl (z_lt hC (by decide)) rfl inX6 (by decide) rfl zm_4_77 rfl dX6_overflow_107 ?_
              refine z_iload_n (pc := 110) hC 1 dX6_overflow_110 rfl rfl ?_
              refine z_iaN (pc := 111) hC k (x := nI (kd σ b k)) rfl (z_lt hC (by decide)) rfl (by omega) (by decide) (hkq.2 k hkn) dX6_overflow_111 ?_
              refine z_iload (pc := 112) hC 0 dX6_overflow_112 rfl ?_
              refine z_cV (pc := 114) (st := []) hC [.int (nI (kd σ b k)), .int 0] (kX6_end C.2.1 g N I2 P1 J1 (kd σ b k) 0 hk40 (by decide) (sX σ (kd σ b k)) (sWD σ (kd σ b k)) (har2 (kd σ b k) hks).2.2.1 (har2 (kd σ b k) hks).2.2.2.2.1) rfl (z_lt hC (by decide)) rfl zkX6_end zm_5_126 ⟨rfl, rfl⟩ rfl rfl hRm ⟨Nat.le_of_ble_eq_true rfl, Nat.le_of_ble_eq_true rfl⟩ (Nat.le_of_ble_eq_true rfl) ⟨Nat.zero_le _, Nat.zero_le _⟩ dX6_overflow_114 ?_
              refine z_aload_n (pc := 117) hC 3 dX6_overflow_117 rfl rfl z_isr_r ?_
              refine z_aload_n (pc := 118) hC 3 dX6_overflow_118 rfl rfl z_isr_r ?_
              refine z_gF (pc := 119) hC 6 4 (t := 99) rfl (z_lt hC (by decide)) rfl inX6 (by decide) rfl zm_4_77 rfl dX6_overflow_119 ?_
              refine z_iload_n (pc := 122) hC 1 dX6_overflow_122 rfl rfl ?_
              refine z_iaN (pc := 123) hC k (x := nI (kd σ b k)) rfl (z_lt hC (by decide)) rfl (by omega) (by decide) (hkq.2 k hkn) dX6_overflow_123 ?_
              refine z_bipush (pc := 124) (v := 6) hC dX6_overflow_124 rfl ?_
              refine z_cV (pc := 126) (st := [.int (sX σ (kd σ b k) + sWD σ (kd σ b k))]) hC [.int (nI (kd σ b k)), .int 6] (kX6_of C.2.1 g N I2 P1 J1 hm2 (kd σ b k) 6 (sKids_lt hm.1 (kd_mem hkn)).2.2.1 (by decide) 6 rfl) rfl (z_lt hC (by decide)) rfl zkX6_of zm_4_162 ⟨rfl, rfl⟩ rfl rfl hRm ⟨Nat.le_of_ble_eq_true rfl, Nat.le_of_ble_eq_true rfl⟩ (Nat.le_of_ble_eq_true rfl) ⟨Nat.zero_le _, Nat.zero_le _⟩ dX6_overflow_126 ?_
              refine z_iadd (pc := 129) hC dX6_overflow_129 ?_
              refine z_aload_n (pc := 130) hC 3 dX6_overflow_130 rfl rfl z_isr_r ?_
              refine z_iload_n (pc := 131) hC 4 dX6_overflow_131 rfl rfl ?_
              refine z_iload (pc := 132) hC 0 dX6_overflow_132 rfl ?_
              refine z_cV (pc := 134) (st := [.int ((sX σ (kd σ b k) + sWD σ (kd σ b k)) + (sSt σ (kd σ b k) 6))]) hC [.int (nI b), .int 0] (kX6_end C.2.1 g N I2 P1 J1 b 0 hb (by decide) (sX σ b) (sWD σ b) (har2 b hs).2.2.1 (har2 b hs).2.2.2.2.1) rfl (z_lt hC (by decide)) rfl zkX6_end zm_5_126 ⟨rfl, rfl⟩ rfl rfl hRm ⟨Nat.le_of_ble_eq_true rfl, Nat.le_of_ble_eq_true rfl⟩ (Nat.le_of_ble_eq_true rfl) ⟨Nat.zero_le _, Nat.zero_le _⟩ dX6_overflow_134 ?_
              refine z_aload_n (pc := 137) hC 3 dX6_overflow_137 rfl rfl z_isr_r ?_
              refine z_iload_n (pc := 138) hC 4 dX6_overflow_138 rfl rfl ?_
              refine z_iconst (pc := 139) (v := 5) hC dX6_overflow_139 rfl ?_
              refine z_cV (pc := 140) (st := [.int (sX σ b + sWD σ b), .int ((sX σ (kd σ b k) + sWD σ (kd σ b k)) + (sSt σ (kd σ b k) 6))]) hC [.int (nI b), .int 5] (kX6_of C.2.1 g N I2 P1 J1 hm2 b 5 he (by decide) 5 rfl) rfl (z_lt hC (by decide)) rfl zkX6_of zm_4_162 ⟨rfl, rfl⟩ rfl rfl hRm ⟨Nat.le_of_ble_eq_true rfl, Nat.le_of_ble_eq_true rfl⟩ (Nat.le_of_ble_eq_true rfl) ⟨Nat.zero_le _, Nat.zero_le _⟩ dX6_overflow_140 ?_
              refine z_isub (pc := 143) hC dX6_overflow_143 ?_
              refine z_icmp_le (pc := 144) (tgt := 151) hC dX6_overflow_144 (by decide) (fun h144 => ?_) (fun h144 => ?_)
              · skip
                have g144 := Int32.not_lt.mpr h144
                refine z_iconst (pc := 151) (v := 0) hC dX6_overflow_151 rfl ?_
                refine z_istore (pc := 152) (lv' := [(5, .int 0), (4, .int 0), (3, .int (nI k)), (2, .int (zbt (zor (sOvX σ b) k) (zor (sOvY σ b) k))), (0, .ref (g.1 95)), (1, .int (nI b))]) hC dX6_overflow_152 (by decide) rfl ?_
                refine z_iload_n (pc := 154) hC 3 dX6_overflow_154 rfl rfl ?_
                refine z_iload (pc := 155) hC 0 dX6_overflow_155 rfl ?_
                refine z_if_eq (pc := 157) (tgt := 167) hC dX6_overflow_157 (by decide) (fun h157 => ?_) (fun h157 => ?_)
                · skip
                  refine z_iconst (pc := 167) (v := 0) hC dX6_overflow_167 rfl ?_
                  refine z_ior (pc := 168) hC dX6_overflow_168 ?_
                  refine z_eqI (show (zbt (zor (sOvX σ b) k) (zor (sOvY σ b) k)) ||| 0 = zbt (zor (sOvX σ b) (k + 1)) (zor (sOvY σ b) k) from (zbt_0 _ _).trans (by rw [zor_f (show (sOvX σ b) k = false from decide_eq_false g144)])) ?_
                  refine z_istore_n (pc := 169) (lv' := [(2, .int (zbt (zor (sOvX σ b) (k + 1)) (zor (sOvY σ b) k))), (5, .int 0), (4, .int 0), (3, .int (nI k)), (0, .ref (g.1 95)), (1, .int (nI b))]) hC dX6_overflow_169 rfl (by decide) rfl ?_
                  refine z_iinc (pc := 170) (v := 1) (lv' := [(4, .int 1), (2, .int (zbt (zor (sOvX σ b) (k + 1)) (zor (sOvY σ b) k))), (5, .int 0), (3, .int (nI k)), (0, .ref (g.1 95)), (1, .int (nI b))]) hC 2 dX6_overflow_170 rfl rfl (by decide) rfl ?_
                  refine z_goto (pc := 173) (tgt := 99) hC dX6_overflow_173 (by decide) ?_
                  refine z_iload (pc := 99) hC 0 dX6_overflow_99 rfl ?_
                  refine z_iconst (pc := 101) (v := 2) hC dX6_overflow_101 rfl ?_
                  refine z_icmp_ge (pc := 102) (tgt := 176) hC dX6_overflow_102 (by decide) (fun h102 => ?_) (fun h102 => ?_)
                  · skip
                    have g102 := Int32.not_lt.mpr h102
                    exact absurd h102 (by decide)
                  · skip
                    have g102 := Int32.not_le.mp h102
                    refine z_aload_n (pc := 105) hC 4 dX6_overflow_105 rfl rfl z_isr_r ?_
                    refine z_aload_n (pc := 106) hC 4 dX6_overflow_106 rfl rfl z_isr_r ?_
                    refine z_gF (pc := 107) hC 6 4 (t := 99) rfl (z_lt hC (by decide)) rfl inX6 (by decide) rfl zm_4_77 rfl dX6_overflow_107 ?_
                    refine z_iload_n (pc := 110) hC 3 dX6_overflow_110 rfl rfl ?_
                    refine z_iaN (pc := 111) hC k (x := nI (kd σ b k)) rfl (z_lt hC (by decide)) rfl (by omega) (by decide) (hkq.2 k hkn) dX6_overflow_111 ?_
                    refine z_iload (pc := 112) hC 0 dX6_overflow_112 rfl ?_
                    refine z_cV (pc := 114) (st := []) hC [.int (nI (kd σ b k)), .int 1] (kX6_end C.2.1 g N I2 P1 J1 (kd σ b k) 1 hk40 (by decide) (sY σ (kd σ b k)) (sHT σ (kd σ b k)) (har2 (kd σ b k) hks).2.2.2.1 (har2 (kd σ b k) hks).2.2.2.2.2.1) rfl (z_lt hC (by decide)) rfl zkX6_end zm_5_126 ⟨rfl, rfl⟩ rfl rfl hRm ⟨Nat.le_of_ble_eq_true rfl, Nat.le_of_ble_eq_true rfl⟩ (Nat.le_of_ble_eq_true rfl) ⟨Nat.zero_le _, Nat.zero_le _⟩ dX6_overflow_114 ?_
                    refine z_aload_n (pc := 117) hC 4 dX6_overflow_117 rfl rfl z_isr_r ?_
                    refine z_aload_n (pc := 118) hC 4 dX6_overflow_118 rfl rfl z_isr_r ?_
                    refine z_gF (pc := 119) hC 6 4 (t := 99) rfl (z_lt hC (by decide)) rfl inX6 (by decide) rfl zm_4_77 rfl dX6_overflow_119 ?_
                    refine z_iload_n (pc := 122) hC 3 dX6_overflow_122 rfl rfl ?_
                    refine z_iaN (pc := 123) hC k (x := nI (kd σ b k)) rfl (z_lt hC (by decide)) rfl (by omega) (by decide) (hkq.2 k hkn) dX6_overflow_123 ?_
                    refine z_bipush (pc := 124) (v := 6) hC dX6_overflow_124 rfl ?_
                    refine z_cV (pc := 126) (st := [.int (sY σ (kd σ b k) + sHT σ (kd σ b k))]) hC [.int (nI (kd σ b k)), .int 6] (kX6_of C.2.1 g N I2 P1 J1 hm2 (kd σ b k) 6 (sKids_lt hm.1 (kd_mem hkn)).2.2.1 (by decide) 6 rfl) rfl (z_lt hC (by decide)) rfl zkX6_of zm_4_162 ⟨rfl, rfl⟩ rfl rfl hRm ⟨Nat.le_of_ble_eq_true rfl, Nat.le_of_ble_eq_true rfl⟩ (Nat.le_of_ble_eq_true rfl) ⟨Nat.zero_le _, Nat.zero_le _⟩ dX6_overflow_126 ?_
                    refine z_iadd (pc := 129) hC dX6_overflow_129 ?_
                    refine z_aload_n (pc := 130) hC 4 dX6_overflow_130 rfl rfl z_isr_r ?_
                    refine z_iload_n (pc := 131) hC 5 dX6_overflow_131 rfl rfl ?_
                    refine z_iload (pc := 132) hC 0 dX6_overflow_132 rfl ?_
                    refine z_cV (pc := 134) (st := [.int ((sY σ (kd σ b k) + sHT σ (kd σ b k)) + (sSt σ (kd σ b k) 6))]) hC [.int (nI b), .int 1] (kX6_end C.2.1 g N I2 P1 J1 b 1 hb (by decide) (sY σ b) (sHT σ b) (har2 b hs).2.2.2.1 (har2 b hs).2.2.2.2.2.1) rfl (z_lt hC (by decide)) rfl zkX6_end zm_5_126 ⟨rfl, rfl⟩ rfl rfl hRm ⟨Nat.le_of_ble_eq_true rfl, Nat.le_of_ble_eq_true rfl⟩ (Nat.le_of_ble_eq_true rfl) ⟨Nat.zero_le _, Nat.zero_le _⟩ dX6_overflow_134 ?_
                    refine z_aload_n (pc := 137) hC 4 dX6_overflow_137 rfl rfl z_isr_r ?_
                    refine z_iload_n (pc := 138) hC 5 dX6_overflow_138 rfl rfl ?_
                    refine z_iconst (pc := 139) (v := 5) hC dX6_overflow_139 rfl ?_
                    refine z_cV (pc := 140) (st := [.int (sY σ b + sHT σ b), .int ((sY σ (kd σ b k) + sHT σ (kd σ b k)) + (sSt σ (kd σ b k) 6))]) hC [.int (nI b), .int 5] (kX6_of C.2.1 g N I2 P1 J1 hm2 b 5 he (by decide) 5 rfl) rfl (z_lt hC (by decide)) rfl zkX6_of zm_4_162 ⟨rfl, rfl⟩ rfl rfl hRm ⟨Nat.le_of_ble_eq_true rfl, Nat.le_of_ble_eq_true rfl⟩ (Nat.le_of_ble_eq_true rfl) ⟨Nat.zero_le _, Nat.zero_le _⟩ dX6_overflow_140 ?_
                    refine z_isub (pc := 143) hC dX6_overflow_143 ?_
                    refine z_icmp_le (pc := 144) (tgt := 151) hC dX6_overflow_144 (by decide) (fun h144 => ?_) (fun h144 => ?_)
                    · skip
                      have g144 := Int32.not_lt.mpr h144
                      refine z_iconst (pc := 151) (v := 0) hC dX6_overflow_151 rfl ?_
                      refine z_istore (pc := 152) (lv' := [(5, .int 0), (4, .int 1), (2, .int (zbt (zor (sOvX σ b) (k + 1)) (zor (sOvY σ b) k))), (3, .int (nI k)), (0, .ref (g.1 95)), (1, .int (nI b))]) hC dX6_overflow_152 (by decide) rfl ?_
                      refine z_iload_n (pc := 154) hC 2 dX6_overflow_154 rfl rfl ?_
                      refine z_iload (pc := 155) hC 0 dX6_overflow_155 rfl ?_
                      refine z_if_eq (pc := 157) (tgt := 167) hC dX6_overflow_157 (by decide) (fun h157 => ?_) (fun h157 => ?_)
                      · skip
                        refine z_iconst (pc := 167) (v := 0) hC dX6_overflow_167 rfl ?_
                        refine z_ior (pc := 168) hC dX6_overflow_168 ?_
                        refine z_eqI (show (zbt (zor (sOvX σ b) (k + 1)) (zor (sOvY σ b) k)) ||| 0 = zbt (zor (sOvX σ b) (k + 1)) (zor (sOvY σ b) (k + 1)) from (zbt_0 _ _).trans (by rw [zor_f (show (sOvY σ b) k = false from decide_eq_false g144)])) ?_
                        refine z_istore_n (pc := 169) (lv' := [(2, .int (zbt (zor (sOvX σ b) (k + 1)) (zor (sOvY σ b) (k + 1)))), (5, .int 0), (4, .int 1), (3, .int (nI k)), (0, .ref (g.1 95)), (1, .int (nI b))]) hC dX6_overflow_169 rfl (by decide) rfl ?_
                        refine z_iinc (pc := 170) (v := 2) (lv' := [(4, .int 2), (2, .int (zbt (zor (sOvX σ b) (k + 1)) (zor (sOvY σ b) (k + 1)))), (5, .int 0), (3, .int (nI k)), (0, .ref (g.1 95)), (1, .int (nI b))]) hC 2 dX6_overflow_170 rfl rfl (by decide) rfl ?_
                        refine z_goto (pc := 173) (tgt := 99) hC dX6_overflow_173 (by decide) ?_
                        refine z_iload (pc := 99) hC 0 dX6_overflow_99 rfl ?_
                        refine z_iconst (pc := 101) (v := 2) hC dX6_overflow_101 rfl ?_
                        refine z_icmp_ge (pc := 102) (tgt := 176) hC dX6_overflow_102 (by decide) (fun h102 => ?_) (fun h102 => ?_)
                        · skip
                          have g102 := Int32.not_lt.mpr h102
                          refine z_iinc (pc := 176) (v := nI (k + 1)) (lv' := [(3, .int (nI (k + 1))), (4, .int 2), (2, .int (zbt (zor (sOvX σ b) (k + 1)) (zor (sOvY σ b) (k + 1)))), (5, .int 0), (0, .ref (g.1 95)), (1, .int (nI b))]) hC 3 dX6_overflow_176 rfl (nI_1 k) (by decide) rfl ?_
                          refine z_goto (pc := 179) (tgt := 88) hC dX6_overflow_179 (by decide) ?_
                          refine z_lvs (lv' := [(3, .int (nI (k + 1))), (2, .int (zbt (zor (sOvX σ b) (k + 1)) (zor (sOvY σ b) (k + 1)))), (0, .ref (g.1 95)), (1, .int (nI b))]) [0, 2, 4, 5] rfl ?_
                          exact ih (k + 1) (by omega) (by omega)
                        · skip
                          have g102 := Int32.not_le.mp h102
                          exact absurd h102 (by decide)
                      · skip
                        exact absurd h157 (by decide)
                    · skip
                      have g144 := Int32.not_le.mp h144
                      refine z_iconst (pc := 147) (v := 1) hC dX6_overflow_147 rfl ?_
                      refine z_goto (pc := 148) (tgt := 152) hC dX6_overflow_148 (by decide) ?_
                      refine z_istore (pc := 152) (lv' := [(5, .int 1), (4, .int 1), (2, .int (zbt (zor (sOvX σ b) (k + 1)) (zor (sOvY σ b) k))), (3, .int (nI k)), (0, .ref (g.1 95)), (1, .int (nI b))]) hC dX6_overflow_152 (by decide) rfl ?_
                      refine z_iload_n (pc := 154) hC 2 dX6_overflow_154 rfl rfl ?_
                      refine z_iload (pc := 155) hC 0 dX6_overflow_155 rfl ?_
                      refine z_if_eq (pc := 157) (tgt := 167) hC dX6_overflow_157 (by decide) (fun h157 => ?_) (fun h157 => ?_)
                      · skip
                        exact absurd h157 (by decide)
                      · skip
                        refine z_iconst (pc := 160) (v := 1) hC dX6_overflow_160 rfl ?_
                        refine z_iload (pc := 161) hC 1 dX6_overflow_161 rfl ?_
                        refine z_iadd (pc := 163) hC dX6_overflow_163 ?_
                        refine z_goto (pc := 164) (tgt := 168) hC dX6_overflow_164 (by decide) ?_
                        refine z_ior (pc := 168) hC dX6_overflow_168 ?_
                        refine z_eqI (show (zbt (zor (sOvX σ b) (k + 1)) (zor (sOvY σ b) k)) ||| (1 + 1) = zbt (zor (sOvX σ b) (k + 1)) (zor (sOvY σ b) (k + 1)) from (zbt_2 _ _).trans (by rw [zor_t (show (sOvY σ b) k = true from decide_eq_true g144)])) ?_
                        refine z_istore_n (pc := 169) (lv' := [(2, .int (zbt (zor (sOvX σ b) (k + 1)) (zor (sOvY σ b) (k + 1)))), (5, .int 1), (4, .int 1), (3, .int (nI k)), (0, .ref (g.1 95)), (1, .int (nI b))]) hC dX6_overflow_169 rfl (by decide) rfl ?_
                        refine z_iinc (pc := 170) (v := 2) (lv' := [(4, .int 2), (2, .int (zbt (zor (sOvX σ b) (k + 1)) (zor (sOvY σ b) (k + 1)))), (5, .int 1), (3, .int (nI k)), (0, .ref (g.1 95)), (1, .int (nI b))]) hC 2 dX6_overflow_170 rfl rfl (by decide) rfl ?_
                        refine z_goto (pc := 173) (tgt := 99) hC dX6_overflow_173 (by decide) ?_
                        refine z_iload (pc := 99) hC 0 dX6_overflow_99 rfl ?_
                        refine z_iconst (pc := 101) (v := 2) hC dX6_overflow_101 rfl ?_
                        refine z_icmp_ge (pc := 102) (tgt := 176) hC dX6_overflow_102 (by decide) (fun h102 => ?_) (fun h102 => ?_)
                        · skip
                          have g102 := Int32.not_lt.mpr h102
                          refine z_iinc (pc := 176) (v := nI (k + 1)) (lv' := [(3, .int (nI (k + 1))), (4, .int 2), (2, .int (zbt (zor (sOvX σ b) (k + 1)) (zor (sOvY σ b) (k + 1)))), (5, .int 1), (0, .ref (g.1 95)), (1, .int (nI b))]) hC 3 dX6_overflow_176 rfl (nI_1 k) (by decide) rfl ?_
                          refine z_goto (pc := 179) (tgt := 88) hC dX6_overflow_179 (by decide) ?_
                          refine z_lvs (lv' := [(3, .int (nI (k + 1))), (2, .int (zbt (zor (sOvX σ b) (k + 1)) (zor (sOvY σ b) (k + 1)))), (0, .ref (g.1 95)), (1, .int (nI b))]) [0, 2, 4, 5] rfl ?_
                          exact ih (k + 1) (by omega) (by omega)
                        · skip
                          have g102 := Int32.not_le.mp h102
                          exact absurd h102 (by decide)
                · skip
                  exact absurd h157 (by decide)
              · skip
                have g144 := Int32.not_le.mp h144
                refine z_iconst (pc := 147) (v := 1) hC dX6_overflow_147 rfl ?_
                refine z_goto (pc := 148) (tgt := 152) hC dX6_overflow_148 (by decide) ?_
                refine z_istore (pc := 152) (lv' := [(5, .int 1), (4, .int 0), (3, .int (nI k)), (2, .int (zbt (zor (sOvX σ b) k) (zor (sOvY σ b) k))), (0, .ref (g.1 95)), (1, .int (nI b))]) hC dX6_overflow_152 (by decide) rfl ?_
                refine z_iload_n (pc := 154) hC 3 dX6_overflow_154 rfl rfl ?_
                refine z_iload (pc := 155) hC 0 dX6_overflow_155 rfl ?_
                refine z_if_eq (pc := 157) (tgt := 167) hC dX6_overflow_157 (by decide) (fun h157 => ?_) (fun h157 => ?_)
                · skip
                  exact absurd h157 (by decide)
                · skip
                  refine z_iconst (pc := 160) (v := 1) hC dX6_overflow_160 rfl ?_
                  refine z_iload (pc := 161) hC 1 dX6_overflow_161 rfl ?_
                  refine z_iadd (pc := 163) hC dX6_overflow_163 ?_
                  refine z_goto (pc := 164) (tgt := 168) hC dX6_overflow_164 (by decide) ?_
                  refine z_ior (pc := 168) hC dX6_overflow_168 ?_
                  refine z_eqI (show (zbt (zor (sOvX σ b) k) (zor (sOvY σ b) k)) ||| (1 + 0) = zbt (zor (sOvX σ b) (k + 1)) (zor (sOvY σ b) k) from (zbt_1 _ _).trans (by rw [zor_t (show (sOvX σ b) k = true from decide_eq_true g144)])) ?_
                  refine z_istore_n (pc := 169) (lv' := [(2, .int (zbt (zor (sOvX σ b) (k + 1)) (zor (sOvY σ b) k))), (5, .int 1), (4, .int 0), (3, .int (nI k)), (0, .ref (g.1 95)), (1, .int (nI b))]) hC dX6_overflow_169 rfl (by decide) rfl ?_
                  refine z_iinc (pc := 170) (v := 1) (lv' := [(4, .int 1), (2, .int (zbt (zor (sOvX σ b) (k + 1)) (zor (sOvY σ b) k))), (5, .int 1), (3, .int (nI k)), (0, .ref (g.1 95)), (1, .int (nI b))]) hC 2 dX6_overflow_170 rfl rfl (by decide) rfl ?_
                  refine z_goto (pc := 173) (tgt := 99) hC dX6_overflow_173 (by decide) ?_
                  refine z_iload (pc := 99) hC 0 dX6_overflow_99 rfl ?_
                  refine z_iconst (pc := 101) (v := 2) hC dX6_overflow_101 rfl ?_
                  refine z_icmp_ge (pc := 102) (tgt := 176) hC dX6_overflow_102 (by decide) (fun h102 => ?_) (fun h102 => ?_)
                  · skip
                    have g102 := Int32.not_lt.mpr h102
                    exact absurd h102 (by decide)
                  · skip
                    have g102 := Int32.not_le.mp h102
                    refine z_aload_n (pc := 105) hC 4 dX6_overflow_105 rfl rfl z_isr_r ?_
                    refine z_aload_n (pc := 106) hC 4 dX6_overflow_106 rfl rfl z_isr_r ?_
                    refine z_gF (pc := 107) hC 6 4 (t := 99) rfl (z_lt hC (by decide)) rfl inX6 (by decide) rfl zm_4_77 rfl dX6_overflow_107 ?_
                    refine z_iload_n (pc := 110) hC 3 dX6_overflow_110 rfl rfl ?_
                    refine z_iaN (pc := 111) hC k (x := nI (kd σ b k)) rfl (z_lt hC (by decide)) rfl (by omega) (by decide) (hkq.2 k hkn) dX6_overflow_111 ?_
                    refine z_iload (pc := 112) hC 0 dX6_overflow_112 rfl ?_
                    refine z_cV (pc := 114) (st := []) hC [.int (nI (kd σ b k)), .int 1] (kX6_end C.2.1 g N I2 P1 J1 (kd σ b k) 1 hk40 (by decide) (sY σ (kd σ b k)) (sHT σ (kd σ b k)) (har2 (kd σ b k) hks).2.2.2.1 (har2 (kd σ b k) hks).2.2.2.2.2.1) rfl (z_lt hC (by decide)) rfl zkX6_end zm_5_126 ⟨rfl, rfl⟩ rfl rfl hRm ⟨Nat.le_of_ble_eq_true rfl, Nat.le_of_ble_eq_true rfl⟩ (Nat.le_of_ble_eq_true rfl) ⟨Nat.zero_le _, Nat.zero_le _⟩ dX6_overflow_114 ?_
                    refine z_aload_n (pc := 117) hC 4 dX6_overflow_117 rfl rfl z_isr_r ?_
                    refine z_aload_n (pc := 118) hC 4 dX6_overflow_118 rfl rfl z_isr_r ?_
                    refine z_gF (pc := 119) hC 6 4 (t := 99) rfl (z_lt hC (by decide)) rfl inX6 (by decide) rfl zm_4_77 rfl dX6_overflow_119 ?_
                    refine z_iload_n (pc := 122) hC 3 dX6_overflow_122 rfl rfl ?_
                    refine z_iaN (pc := 123) hC k (x := nI (kd σ b k)) rfl (z_lt hC (by decide)) rfl (by omega) (by decide) (hkq.2 k hkn) dX6_overflow_123 ?_
                    refine z_bipush (pc := 124) (v := 6) hC dX6_overflow_124 rfl ?_
                    refine z_cV (pc := 126) (st := [.int (sY σ (kd σ b k) + sHT σ (kd σ b k))]) hC [.int (nI (kd σ b k)), .int 6] (kX6_of C.2.1 g N I2 P1 J1 hm2 (kd σ b k) 6 (sKids_lt hm.1 (kd_mem hkn)).2.2.1 (by decide) 6 rfl) rfl (z_lt hC (by decide)) rfl zkX6_of zm_4_162 ⟨rfl, rfl⟩ rfl rfl hRm ⟨Nat.le_of_ble_eq_true rfl, Nat.le_of_ble_eq_true rfl⟩ (Nat.le_of_ble_eq_true rfl) ⟨Nat.zero_le _, Nat.zero_le _⟩ dX6_overflow_126 ?_
                    refine z_iadd (pc := 129) hC dX6_overflow_129 ?_
                    refine z_aload_n (pc := 130) hC 4 dX6_overflow_130 rfl rfl z_isr_r ?_
                    refine z_iload_n (pc := 131) hC 5 dX6_overflow_131 rfl rfl ?_
                    refine z_iload (pc := 132) hC 0 dX6_overflow_132 rfl ?_
                    refine z_cV (pc := 134) (st := [.int ((sY σ (kd σ b k) + sHT σ (kd σ b k)) + (sSt σ (kd σ b k) 6))]) hC [.int (nI b), .int 1] (kX6_end C.2.1 g N I2 P1 J1 b 1 hb (by decide) (sY σ b) (sHT σ b) (har2 b hs).2.2.2.1 (har2 b hs).2.2.2.2.2.1) rfl (z_lt hC (by decide)) rfl zkX6_end zm_5_126 ⟨rfl, rfl⟩ rfl rfl hRm ⟨Nat.le_of_ble_eq_true rfl, Nat.le_of_ble_eq_true rfl⟩ (Nat.le_of_ble_eq_true rfl) ⟨Nat.zero_le _, Nat.zero_le _⟩ dX6_overflow_134 ?_
                    refine z_aload_n (pc := 137) hC 4 dX6_overflow_137 rfl rfl z_isr_r ?_
                    refine z_iload_n (pc := 138) hC 5 dX6_overflow_138 rfl rfl ?_
                    refine z_iconst (pc := 139) (v := 5) hC dX6_overflow_139 rfl ?_
                    refine z_cV (pc := 140) (st := [.int (sY σ b + sHT σ b), .int ((sY σ (kd σ b k) + sHT σ (kd σ b k)) + (sSt σ (kd σ b k) 6))]) hC [.int (nI b), .int 5] (kX6_of C.2.1 g N I2 P1 J1 hm2 b 5 he (by decide) 5 rfl) rfl (z_lt hC (by decide)) rfl zkX6_of zm_4_162 ⟨rfl, rfl⟩ rfl rfl hRm ⟨Nat.le_of_ble_eq_true rfl, Nat.le_of_ble_eq_true rfl⟩ (Nat.le_of_ble_eq_true rfl) ⟨Nat.zero_le _, Nat.zero_le _⟩ dX6_overflow_140 ?_
                    refine z_isub (pc := 143) hC dX6_overflow_143 ?_
                    refine z_icmp_le (pc := 144) (tgt := 151) hC dX6_overflow_144 (by decide) (fun h144 => ?_) (fun h144 => ?_)
                    · skip
                      have g144 := Int32.not_lt.mpr h144
                      refine z_iconst (pc := 151) (v := 0) hC dX6_overflow_151 rfl ?_
                      refine z_istore (pc := 152) (lv' := [(5, .int 0), (4, .int 1), (2, .int (zbt (zor (sOvX σ b) (k + 1)) (zor (sOvY σ b) k))), (3, .int (nI k)), (0, .ref (g.1 95)), (1, .int (nI b))]) hC dX6_overflow_152 (by decide) rfl ?_
                      refine z_iload_n (pc := 154) hC 2 dX6_overflow_154 rfl rfl ?_
                      refine z_iload (pc := 155) hC 0 dX6_overflow_155 rfl ?_
                      refine z_if_eq (pc := 157) (tgt := 167) hC dX6_overflow_157 (by decide) (fun h157 => ?_) (fun h157 => ?_)
                      · skip
                        refine z_iconst (pc := 167) (v := 0) hC dX6_overflow_167 rfl ?_
                        refine z_ior (pc := 168) hC dX6_overflow_168 ?_
                        refine z_eqI (show (zbt (zor (sOvX σ b) (k + 1)) (zor (sOvY σ b) k)) ||| 0 = zbt (zor (sOvX σ b) (k + 1)) (zor (sOvY σ b) (k + 1)) from (zbt_0 _ _).trans (by rw [zor_f (show (sOvY σ b) k = false from decide_eq_false g144)])) ?_
                        refine z_istore_n (pc := 169) (lv' := [(2, .int (zbt (zor (sOvX σ b) (k + 1)) (zor (sOvY σ b) (k + 1)))), (5, .int 0), (4, .int 1), (3, .int (nI k)), (0, .ref (g.1 95)), (1, .int (nI b))]) hC dX6_overflow_169 rfl (by decide) rfl ?_
                        refine z_iinc (pc := 170) (v := 2) (lv' := [(4, .int 2), (2, .int (zbt (zor (sOvX σ b) (k + 1)) (zor (sOvY σ b) (k + 1)))), (5, .int 0), (3, .int (nI k)), (0, .ref (g.1 95)), (1, .int (nI b))]) hC 2 dX6_overflow_170 rfl rfl (by decide) rfl ?_
                        refine z_goto (pc := 173) (tgt := 99) hC dX6_overflow_173 (by decide) ?_
                        refine z_iload (pc := 99) hC 0 dX6_overflow_99 rfl ?_
                        refine z_iconst (pc := 101) (v := 2) hC dX6_overflow_101 rfl ?_
                        refine z_icmp_ge (pc := 102) (tgt := 176) hC dX6_overflow_102 (by decide) (fun h102 => ?_) (fun h102 => ?_)
                        · skip
                          have g102 := Int32.not_lt.mpr h102
                          refine z_iinc (pc := 176) (v := nI (k + 1)) (lv' := [(3, .int (nI (k + 1))), (4, .int 2), (2, .int (zbt (zor (sOvX σ b) (k + 1)) (zor (sOvY σ b) (k + 1)))), (5, .int 0), (0, .ref (g.1 95)), (1, .int (nI b))]) hC 3 dX6_overflow_176 rfl (nI_1 k) (by decide) rfl ?_
                          refine z_goto (pc := 179) (tgt := 88) hC dX6_overflow_179 (by decide) ?_
                          refine z_lvs (lv' := [(3, .int (nI (k + 1))), (2, .int (zbt (zor (sOvX σ b) (k + 1)) (zor (sOvY σ b) (k + 1)))), (0, .ref (g.1 95)), (1, .int (nI b))]) [0, 2, 4, 5] rfl ?_
                          exact ih (k + 1) (by omega) (by omega)
                        · skip
                          have g102 := Int32.not_le.mp h102
                          exact absurd h102 (by decide)
                      · skip
                        exact absurd h157 (by decide)
                    · skip
                      have g144 := Int32.not_le.mp h144
                      refine z_iconst (pc := 147) (v := 1) hC dX6_overflow_147 rfl ?_
                      refine z_goto (pc := 148) (tgt := 152) hC dX6_overflow_148 (by decide) ?_
                      refine z_istore (pc := 152) (lv' := [(5, .int 1), (4, .int 1), (2, .int (zbt (zor (sOvX σ b) (k + 1)) (zor (sOvY σ b) k))), (3, .int (nI k)), (0, .ref (g.1 95)), (1, .int (nI b))]) hC dX6_overflow_152 (by decide) rfl ?_
                      refine z_iload_n (pc := 154) hC 2 dX6_overflow_154 rfl rfl ?_
                      refine z_iload (pc := 155) hC 0 dX6_overflow_155 rfl ?_
                      refine z_if_eq (pc := 157) (tgt := 167) hC dX6_overflow_157 (by decide) (fun h157 => ?_) (fun h157 => ?_)
                      · skip
                        exact absurd h157 (by decide)
                      · skip
                        refine z_iconst (pc := 160) (v := 1) hC dX6_overflow_160 rfl ?_
                        refine z_iload (pc := 161) hC 1 dX6_overflow_161 rfl ?_
                        refine z_iadd (pc := 163) hC dX6_overflow_163 ?_
                        refine z_goto (pc := 164) (tgt := 168) hC dX6_overflow_164 (by decide) ?_
                        refine z_ior (pc := 168) hC dX6_overflow_168 ?_
                        refine z_eqI (show (zbt (zor (sOvX σ b) (k + 1)) (zor (sOvY σ b) k)) ||| (1 + 1) = zbt (zor (sOvX σ b) (k + 1)) (zor (sOvY σ b) (k + 1)) from (zbt_2 _ _).trans (by rw [zor_t (show (sOvY σ b) k = true from decide_eq_true g144)])) ?_
                        refine z_istore_n (pc := 169) (lv' := [(2, .int (zbt (zor (sOvX σ b) (k + 1)) (zor (sOvY σ b) (k + 1)))), (5, .int 1), (4, .int 1), (3, .int (nI k)), (0, .ref (g.1 95)), (1, .int (nI b))]) hC dX6_overflow_169 rfl (by decide) rfl ?_
                        refine z_iinc (pc := 170) (v := 2) (lv' := [(4, .int 2), (2, .int (zbt (zor (sOvX σ b) (k + 1)) (zor (sOvY σ b) (k + 1)))), (5, .int 1), (3, .int (nI k)), (0, .ref (g.1 95)), (1, .int (nI b))]) hC 2 dX6_overflow_170 rfl rfl (by decide) rfl ?_
                        refine z_goto (pc := 173) (tgt := 99) hC dX6_overflow_173 (by decide) ?_
                        refine z_iload (pc := 99) hC 0 dX6_overflow_99 rfl ?_
                        refine z_iconst (pc := 101) (v := 2) hC dX6_overflow_101 rfl ?_
                        refine z_icmp_ge (pc := 102) (tgt := 176) hC dX6_overflow_102 (by decide) (fun h102 => ?_) (fun h102 => ?_)
                        · skip
                          have g102 := Int32.not_lt.mpr h102
                          refine z_iinc (pc := 176) (v := nI (k + 1)) (lv' := [(3, .int (nI (k + 1))), (4, .int 2), (2, .int (zbt (zor (sOvX σ b) (k + 1)) (zor (sOvY σ b) (k + 1)))), (5, .int 1), (0, .ref (g.1 95)), (1, .int (nI b))]) hC 3 dX6_overflow_176 rfl (nI_1 k) (by decide) rfl ?_
                          refine z_goto (pc := 179) (tgt := 88) hC dX6_overflow_179 (by decide) ?_
                          refine z_lvs (lv' := [(3, .int (nI (k + 1))), (2, .int (zbt (zor (sOvX σ b) (k + 1)) (zor (sOvY σ b) (k + 1)))), (0, .ref (g.1 95)), (1, .int (nI b))]) [0, 2, 4, 5] rfl ?_
                          exact ih (k + 1) (by omega) (by omega)
                        · skip
                          have g102 := Int32.not_le.mp h102
                          exact absurd h102 (by decide)
      exact L88 41 0 (Nat.zero_le _) (by omega)
    · skip
      have g15 := zB_t h15
      refine z_aload_n (pc := 18) hC 0 dX6_overflow_18 rfl rfl z_isr_r ?_
      refine z_iload_n (pc := 19) hC 1 dX6_overflow_19 rfl rfl ?_
      refine z_bipush (pc := 20) (v := 19) hC dX6_overflow_20 rfl ?_
      refine z_cV (pc := 22) (st := []) hC [.int (nI b), .int 19] (kX6_of C.2.1 g N I1 P1 J1 hm1 b 19 he (by decide) 19 rfl) rfl (z_lt hC (by decide)) rfl zkX6_of zm_4_162 ⟨rfl, rfl⟩ rfl rfl hRm ⟨Nat.le_of_ble_eq_true rfl, Nat.le_of_ble_eq_true rfl⟩ (Nat.le_of_ble_eq_true rfl) ⟨Nat.zero_le _, Nat.zero_le _⟩ dX6_overflow_22 ?_
      refine z_if_le (pc := 25) (tgt := 43) hC dX6_overflow_25 (by decide) (fun h25 => ?_) (fun h25 => ?_)
      · skip
        have g25 := Int32.not_lt.mpr h25
        refine z_iconst (pc := 43) (v := 0) hC dX6_overflow_43 rfl ?_
        refine z_istore_n (pc := 44) (lv' := [(2, .int 0), (0, .ref (g.1 95)), (1, .int (nI b))]) hC dX6_overflow_44 rfl (by decide) rfl ?_
        refine z_iload_n (pc := 45) hC 0 dX6_overflow_45 rfl rfl ?_
        refine z_if_eq (pc := 46) (tgt := 53) hC dX6_overflow_46 (by decide) (fun h46 => ?_) (fun h46 => ?_)
        · skip
          refine z_iconst (pc := 53) (v := 0) hC dX6_overflow_53 rfl ?_
          refine z_bipush (pc := 54) (v := 16) hC dX6_overflow_54 rfl ?_
          refine z_aload_n (pc := 56) hC 1 dX6_overflow_56 rfl rfl z_isr_r ?_
          refine z_gF (pc := 57) hC 6 11 (t := 105) rfl (z_lt hC (by decide)) rfl inX6 (by decide) rfl zm_4_84 rfl dX6_overflow_57 ?_
          refine z_iload_n (pc := 60) hC 2 dX6_overflow_60 rfl rfl ?_
          refine z_iaN (pc := 61) hC b (x := sLC σ (sNW σ) b (sWD σ b)) rfl (z_lt hC (by decide)) rfl hb (by decide) (har b hs).2.2.2.2.2.2.1 dX6_overflow_61 ?_
          refine z_imul (pc := 62) hC dX6_overflow_62 ?_
          refine z_aload_n (pc := 63) hC 1 dX6_overflow_63 rfl rfl z_isr_r ?_
          refine z_iload_n (pc := 64) hC 2 dX6_overflow_64 rfl rfl ?_
          refine z_iconst (pc := 65) (v := 1) hC dX6_overflow_65 rfl ?_
          refine z_cV (pc := 66) (st := [.int (16 * (sLC σ (sNW σ) b (sWD σ b))), .int 0]) hC [.int (nI b), .int 1] (kX6_inner C.2.1 g N I1 P1 J1 hm1 b 1 he (by decide) (sHT σ b) (har b hs).2.2.2.2.2.1) rfl (z_lt hC (by decide)) rfl zkX6_inner zm_5_4 ⟨rfl, rfl⟩ rfl rfl hRm ⟨Nat.le_of_ble_eq_true rfl, Nat.le_of_ble_eq_true rfl⟩ (Nat.le_of_ble_eq_true rfl) ⟨Nat.zero_le _, Nat.zero_le _⟩ dX6_overflow_66 ?_
          refine z_icmp_le (pc := 69) (tgt := 76) hC dX6_overflow_69 (by decide) (fun h69 => ?_) (fun h69 => ?_)
          · skip
            have g69 := Int32.not_lt.mpr h69
            refine z_iconst (pc := 76) (v := 0) hC dX6_overflow_76 rfl ?_
            refine z_iadd (pc := 77) hC dX6_overflow_77 ?_
            exact z_iret (pc := 78) hC hE dX6_overflow_78 ⟨Or.inr ⟨b, rfl, hb, he, hs, by unfold sOvf sOvT; rw [if_neg (by rw [znot_t g15]; decide), decide_eq_false (fun q => g25 q.1), decide_eq_false g69]; rfl, h3⟩, hm1, hk1⟩
          · skip
            have g69 := Int32.not_le.mp h69
            refine z_iconst (pc := 72) (v := 2) hC dX6_overflow_72 rfl ?_
            refine z_goto (pc := 73) (tgt := 77) hC dX6_overflow_73 (by decide) ?_
            refine z_iadd (pc := 77) hC dX6_overflow_77 ?_
            exact z_iret (pc := 78) hC hE dX6_overflow_78 ⟨Or.inr ⟨b, rfl, hb, he, hs, by unfold sOvf sOvT; rw [if_neg (by rw [znot_t g15]; decide), decide_eq_false (fun q => g25 q.1), decide_eq_true g69]; rfl, h3⟩, hm1, hk1⟩
        · skip
          exact absurd h46 (by decide)
      · skip
        have g25 := Int32.not_le.mp h25
        refine z_aload_n (pc := 28) hC 0 dX6_overflow_28 rfl rfl z_isr_r ?_
        refine z_iload_n (pc := 29) hC 1 dX6_overflow_29 rfl rfl ?_
        refine z_iconst (pc := 30) (v := 0) hC dX6_overflow_30 rfl ?_
        refine z_cV (pc := 31) (st := []) hC [.int (nI b), .int 0] (kX6_inner C.2.1 g N I1 P1 J1 hm1 b 0 he (by decide) (sWD σ b) (har b hs).2.2.2.2.1) rfl (z_lt hC (by decide)) rfl zkX6_inner zm_5_4 ⟨rfl, rfl⟩ rfl rfl hRm ⟨Nat.le_of_ble_eq_true rfl, Nat.le_of_ble_eq_true rfl⟩ (Nat.le_of_ble_eq_true rfl) ⟨Nat.zero_le _, Nat.zero_le _⟩ dX6_overflow_31 ?_
        refine z_bipush (pc := 34) (v := 8) hC dX6_overflow_34 rfl ?_
        refine z_icmp_ge (pc := 36) (tgt := 43) hC dX6_overflow_36 (by decide) (fun h36 => ?_) (fun h36 => ?_)
        · skip
          have g36 := Int32.not_lt.mpr h36
          refine z_iconst (pc := 43) (v := 0) hC dX6_overflow_43 rfl ?_
          refine z_istore_n (pc := 44) (lv' := [(2, .int 0), (0, .ref (g.1 95)), (1, .int (nI b))]) hC dX6_overflow_44 rfl (by decide) rfl ?_
          refine z_iload_n (pc := 45) hC 0 dX6_overflow_45 rfl rfl ?_
          refine z_if_eq (pc := 46) (tgt := 53) hC dX6_overflow_46 (by decide) (fun h46 => ?_) (fun h46 => ?_)
          · skip
            refine z_iconst (pc := 53) (v := 0) hC dX6_overflow_53 rfl ?_
            refine z_bipush (pc := 54) (v := 16) hC dX6_overflow_54 rfl ?_
            refine z_aload_n (pc := 56) hC 1 dX6_overflow_56 rfl rfl z_isr_r ?_
            refine z_gF (pc := 57) hC 6 11 (t := 105) rfl (z_lt hC (by decide)) rfl inX6 (by decide) rfl zm_4_84 rfl dX6_overflow_57 ?_
            refine z_iload_n (pc := 60) hC 2 dX6_overflow_60 rfl rfl ?_
            refine z_iaN (pc := 61) hC b (x := sLC σ (sNW σ) b (sWD σ b)) rfl (z_lt hC (by decide)) rfl hb (by decide) (har b hs).2.2.2.2.2.2.1 dX6_overflow_61 ?_
            refine z_imul (pc := 62) hC dX6_overflow_62 ?_
            refine z_aload_n (pc := 63) hC 1 dX6_overflow_63 rfl rfl z_isr_r ?_
            refine z_iload_n (pc := 64) hC 2 dX6_overflow_64 rfl rfl ?_
            refine z_iconst (pc := 65) (v := 1) hC dX6_overflow_65 rfl ?_
            refine z_cV (pc := 66) (st := [.int (16 * (sLC σ (sNW σ) b (sWD σ b))), .int 0]) hC [.int (nI b), .int 1] (kX6_inner C.2.1 g N I1 P1 J1 hm1 b 1 he (by decide) (sHT σ b) (har b hs).2.2.2.2.2.1) rfl (z_lt hC (by decide)) rfl zkX6_inner zm_5_4 ⟨rfl, rfl⟩ rfl rfl hRm ⟨Nat.le_of_ble_eq_true rfl, Nat.le_of_ble_eq_true rfl⟩ (Nat.le_of_ble_eq_true rfl) ⟨Nat.zero_le _, Nat.zero_le _⟩ dX6_overflow_66 ?_
            refine z_icmp_le (pc := 69) (tgt := 76) hC dX6_overflow_69 (by decide) (fun h69 => ?_) (fun h69 => ?_)
            · skip
              have g69 := Int32.not_lt.mpr h69
              refine z_iconst (pc := 76) (v := 0) hC dX6_overflow_76 rfl ?_
              refine z_iadd (pc := 77) hC dX6_overflow_77 ?_
              exact z_iret (pc := 78) hC hE dX6_overflow_78 ⟨Or.inr ⟨b, rfl, hb, he, hs, by unfold sOvf sOvT; rw [if_neg (by rw [znot_t g15]; decide), decide_eq_false (fun q => g36 q.2), decide_eq_false g69]; rfl, h3⟩, hm1, hk1⟩
            · skip
              have g69 := Int32.not_le.mp h69
              refine z_iconst (pc := 72) (v := 2) hC dX6_overflow_72 rfl ?_
              refine z_goto (pc := 73) (tgt := 77) hC dX6_overflow_73 (by decide) ?_
              refine z_iadd (pc := 77) hC dX6_overflow_77 ?_
              exact z_iret (pc := 78) hC hE dX6_overflow_78 ⟨Or.inr ⟨b, rfl, hb, he, hs, by unfold sOvf sOvT; rw [if_neg (by rw [znot_t g15]; decide), decide_eq_false (fun q => g36 q.2), decide_eq_true g69]; rfl, h3⟩, hm1, hk1⟩
          · skip
            exact absurd h46 (by decide)
        · skip
          have g36 := Int32.not_le.mp h36
          refine z_iconst (pc := 39) (v := 1) hC dX6_overflow_39 rfl ?_
          refine z_goto (pc := 40) (tgt := 44) hC dX6_overflow_40 (by decide) ?_
          refine z_istore_n (pc := 44) (lv' := [(2, .int 1), (0, .ref (g.1 95)), (1, .int (nI b))]) hC dX6_overflow_44 rfl (by decide) rfl ?_
          refine z_iload_n (pc := 45) hC 0 dX6_overflow_45 rfl rfl ?_
          refine z_if_eq (pc := 46) (tgt := 53) hC dX6_overflow_46 (by decide) (fun h46 => ?_) (fun h46 => ?_)
          · skip
            exact absurd h46 (by decide)
          · skip
            refine z_iconst (pc := 49) (v := 1) hC dX6_overflow_49 rfl ?_
            refine z_goto (pc := 50) (tgt := 54) hC dX6_overflow_50 (by decide) ?_
            refine z_bipush (pc := 54) (v := 16) hC dX6_overflow_54 rfl ?_
            refine z_aload_n (pc := 56) hC 1 dX6_overflow_56 rfl rfl z_isr_r ?_
            refine z_gF (pc := 57) hC 6 11 (t := 105) rfl (z_lt hC (by decide)) rfl inX6 (by decide) rfl zm_4_84 rfl dX6_overflow_57 ?_
            refine z_iload_n (pc := 60) hC 2 dX6_overflow_60 rfl rfl ?_
            refine z_iaN (pc := 61) hC b (x := sLC σ (sNW σ) b (sWD σ b)) rfl (z_lt hC (by decide)) rfl hb (by decide) (har b hs).2.2.2.2.2.2.1 dX6_overflow_61 ?_
            refine z_imul (pc := 62) hC dX6_overflow_62 ?_
            refine z_aload_n (pc := 63) hC 1 dX6_overflow_63 rfl rfl z_isr_r ?_
            refine z_iload_n (pc := 64) hC 2 dX6_overflow_64 rfl rfl ?_
            refine z_iconst (pc := 65) (v := 1) hC dX6_overflow_65 rfl ?_
            refine z_cV (pc := 66) (st := [.int (16 * (sLC σ (sNW σ) b (sWD σ b))), .int 1]) hC [.int (nI b), .int 1] (kX6_inner C.2.1 g N I1 P1 J1 hm1 b 1 he (by decide) (sHT σ b) (har b hs).2.2.2.2.2.1) rfl (z_lt hC (by decide)) rfl zkX6_inner zm_5_4 ⟨rfl, rfl⟩ rfl rfl hRm ⟨Nat.le_of_ble_eq_true rfl, Nat.le_of_ble_eq_true rfl⟩ (Nat.le_of_ble_eq_true rfl) ⟨Nat.zero_le _, Nat.zero_le _⟩ dX6_overflow_66 ?_
            refine z_icmp_le (pc := 69) (tgt := 76) hC dX6_overflow_69 (by decide) (fun h69 => ?_) (fun h69 => ?_)
            · skip
              have g69 := Int32.not_lt.mpr h69
              refine z_iconst (pc := 76) (v := 0) hC dX6_overflow_76 rfl ?_
              refine z_iadd (pc := 77) hC dX6_overflow_77 ?_
              exact z_iret (pc := 78) hC hE dX6_overflow_78 ⟨Or.inr ⟨b, rfl, hb, he, hs, by unfold sOvf sOvT; rw [if_neg (by rw [znot_t g15]; decide), decide_eq_true ⟨g25, g36⟩, decide_eq_false g69]; rfl, h3⟩, hm1, hk1⟩
            · skip
              have g69 := Int32.not_le.mp h69
              refine z_iconst (pc := 72) (v := 2) hC dX6_overflow_72 rfl ?_
              refine z_goto (pc := 73) (tgt := 77) hC dX6_overflow_73 (by decide) ?_
              refine z_iadd (pc := 77) hC dX6_overflow_77 ?_
              exact z_iret (pc := 78) hC hE dX6_overflow_78 ⟨Or.inr ⟨b, rfl, hb, he, hs, by unfold sOvf sOvT; rw [if_neg (by rw [znot_t g15]; decide), decide_eq_true ⟨g25, g36⟩, decide_eq_true g69]; rfl, h3⟩, hm1, hk1⟩
  · skip
    have g5 := zB_f h5
    refine z_iconst (pc := 8) (v := 0) hC dX6_overflow_8 rfl ?_
    exact z_iret (pc := 9) hC hE dX6_overflow_9 ⟨Or.inl (hcf g5), hm1, hk1⟩
/-- the boxes that wait, the topmost first -/
def zwt (I : Nat → Nat → Int32) : List Nat → Prop
  | [] => True
  | b :: T => I 109 T.length = nI b ∧ zwt I T
theorem zwt_fr {I I' : Nat → Nat → Int32} : ∀ {T : List Nat}, zwt I T → (∀ j, j < T.length → I' 109 j = I 109 j) → zwt I' T
  | [], _, _ => True.intro
  | b :: T, h, e => ⟨(e _ (by show T.length < T.length + 1; omega)).trans h.1, zwt_fr h.2 (fun j hj => e j (by show j < T.length + 1; omega))⟩
theorem zwt_u {I : Nat → Nat → Int32} {T : List Nat} {b : Nat} (h : zwt I T) : zwt (z_u I 109 T.length (nI b)) (b :: T) := ⟨z_u_s _ _ _ _, zwt_fr h (fun j hj => z_u_b _ _ (by omega))⟩
theorem sPr_ne {σ : zS} (hw : sWF σ) (b : Nat) : 1 ≤ (sPr σ b).length := by
  rw [sPr_fix hw]
  show 1 ≤ _ + 1
  omega
theorem zwt_len {σ : zS} (hw : sWF σ) : ∀ (T : List Nat), T.length ≤ (T.flatMap (sPr σ)).length
  | [] => Nat.le_refl _
  | b :: T => by
    have h1 := zwt_len hw T
    have h2 := sPr_ne hw b
    rw [List.flatMap_cons, List.length_append]
    show T.length + 1 ≤ _
    omega
/-- d boxes are asked, T wait -/
def zhi (σ : zS) (d : Nat) (T : List Nat) : Prop := T.flatMap (sPr σ) = (sPr σ 0).drop d
theorem zhi_0 {σ : zS} : zhi σ 0 [0] := by
  unfold zhi
  rw [List.drop_zero, List.flatMap_cons, List.flatMap_nil, List.append_nil]
theorem zhi_at {σ : zS} (hw : sWF σ) {d b : Nat} {T : List Nat} (h : zhi σ d (b :: T)) : (sPr σ 0)[d]? = some b ∧ zhi σ (d + 1) (sKids σ b ++ T) := by
  unfold zhi at *
  rw [List.flatMap_cons, sPr_fix hw b, List.cons_append] at h
  have e : (sPr σ 0)[d]? = some b := by
    have q := congrArg (fun L => L[0]?) h
    simp only [List.getElem?_cons_zero] at q
    rw [List.getElem?_drop] at q
    exact q.symm
  refine ⟨e, ?_⟩
  rw [List.flatMap_append]
  have q := congrArg List.tail h
  rw [List.tail_cons, List.tail_drop] at q
  exact q
theorem zhi_len {σ : zS} (hw : sWF σ) {d : Nat} {T : List Nat} (h : zhi σ d T) : T.length + d ≤ 40 ∨ T = [] := by
  have h1 := zwt_len hw T
  have h2 := sPr_len hw
  unfold zhi at h
  rw [h, List.length_drop] at h1
  cases T with
  | nil => exact Or.inr rfl
  | cons b T =>
    refine Or.inl ?_
    have : (b :: T).length = T.length + 1 := rfl
    omega
theorem zhi_end {σ : zS} (hw : sWF σ) {d : Nat} (h : zhi σ d []) (px py : Int32) (hd : d ≤ 40) : zlast (scov σ px py) (sPr σ 0) d = sHit σ px py := by
  unfold zhi at h
  rw [List.flatMap_nil] at h
  have e : (sPr σ 0)[d]? = none := by
    apply List.getElem?_eq_none_iff.mpr
    have := congrArg List.length h
    rw [List.length_drop] at this
    have z : ([] : List Nat).length = 0 := rfl
    omega
  have := zlast_end (f := scov σ px py) e (40 - d)
  rw [show d + (40 - d) = 40 by omega] at this
  exact this.symm
theorem mAr.fr {σ : zS} {I I' : Nat → Nat → Int32} (h : mAr σ I) (e : ∀ q j, q ≠ 99 → q ≠ 109 → q ≠ 95 → I' q j = I q j) : mAr σ I' := fun b hb => by
  rw [e 101 _ (by decide) (by decide) (by decide), e 101 _ (by decide) (by decide) (by decide), e 103 _ (by decide) (by decide) (by decide), e 103 _ (by decide) (by decide) (by decide), e 102 _ (by decide) (by decide) (by decide), e 102 _ (by decide) (by decide) (by decide), e 105 _ (by decide) (by decide) (by decide), e 104 _ (by decide) (by decide) (by decide)]
  exact h b hb
theorem drop_kd {σ : zS} {b k : Nat} (hk : k < kn σ b) : (sKids σ b).drop k = kd σ b k :: (sKids σ b).drop (k + 1) := by
  have e : (sKids σ b)[k] = kd σ b k := by
    unfold kd
    rw [List.getD_eq_getElem?_getD, List.getElem?_eq_getElem hk]
    rfl
  rw [← e]
  exact List.drop_eq_getElem_cons hk
theorem zhi_b {σ : zS} (hw : sWF σ) {d b : Nat} {T : List Nat} (h : zhi σ d (b :: T)) : b < 40 ∧ sEx σ b = true ∧ sSh σ b = true := by
  have q := (sPr_at hw (zhi_at hw h).1).1
  exact ⟨(sSh_ex hw q).1, (sSh_ex hw q).2, q⟩
theorem zl_pos {T : List Nat} (h : ¬ nI T.length ≤ 0) (hl : T.length ≤ 40) : ∃ b T', T = b :: T' := by
  cases T with
  | nil => exact absurd (by decide) h
  | cons b T' => exact ⟨b, T', rfl⟩
theorem zl_nil {T : List Nat} (h : nI T.length ≤ 0) (hl : T.length ≤ 40) : T = [] := by
  have := zc_ge (n := T.length) (i := 0) h (by decide) (by omega)
  exact List.eq_nil_of_length_eq_zero (by omega)
theorem hfr2 {I1 Ir I2 Ii : Nat → Nat → Int32} (h1 : ∀ q j, q ≠ 99 → q ≠ 109 → ¬ (q = 95 ∧ j = 5) → Ir q j = I1 q j) (h2 : ∀ q j, q ≠ 99 → ¬ (q = 95 ∧ j = 5) → I2 q j = Ir q j) (h3 : ∀ q j, q ≠ 109 → Ii q j = I2 q j) : ∀ q j, q ≠ 99 → q ≠ 109 → ¬ (q = 95 ∧ j = 5) → Ii q j = I1 q j := fun q j k1 k2 k3 => (h3 q j k2).trans ((h2 q j k1 k3).trans (h1 q j k1 k2 k3))
set_option maxHeartbeats 4000000 in
set_option maxRecDepth 100000 in
theorem kX6_hit (lx : Launch) (g : zG) (N : Nat) (I : Nat → Nat → Int32) (P : Nat → Nat → Option Nat) (J : Nat → Nat → Int64) {σ : zS} (hm : zMd σ I) (px py : Int32) : z_Ct lx yX6_hit (zT yX6_hit cX6_hit 7 (Option.some FieldType.int)) ({ frames := 8, cells := 0, slots := 0, locals := 195 } : Room) g N I P J [.ref (g.1 95), .int px, .int py] (fun v I' P' J' => v = some (.int (sHit σ px py)) ∧ I' 95 3 = 0 ∧ zMd σ I' ∧ zKm I P J I' P' J') 0 0 := by
  refine z_of (by decide) (Nat.le_of_ble_eq_true rfl) (lv0 := [(0, .ref (g.1 95)), (1, .int px), (2, .int py)]) rfl ?_
  intro C hlx hC hE hRm
  have hC : zX C cX6_hit 7 RX6 (zT yX6_hit cX6_hit 7 (Option.some FieldType.int)) g N := hC
  refine z_aload_n (pc := 0) hC 0 dX6_hit_0 rfl rfl z_isr_r ?_
  refine z_iconst (pc := 1) (v := 0) hC dX6_hit_1 rfl ?_
  refine z_pI (pc := 2) hC 6 3 rfl (z_lt hC (by decide)) rfl inX6 tyX6_ok nmX6 (by decide) rfl zm_4_76 rfl rfl rfl dX6_hit_2 ?_
  refine z_aload_n (pc := 5) hC 0 dX6_hit_5 rfl rfl z_isr_r ?_
  refine z_callV (pc := 6) (st := []) hC [] (kX6_layOut C.2.1 g N (z_u I 95 3 0) P J (hm.u (by decide))) rfl (z_lt hC (by decide)) rfl zkX6_layOut zm_4_204 ⟨rfl, rfl⟩ rfl rfl hRm ⟨Nat.le_of_ble_eq_true rfl, Nat.le_of_ble_eq_true rfl⟩ (Nat.le_of_ble_eq_true rfl) ⟨Nat.zero_le _, Nat.zero_le _⟩ dX6_hit_6 ?_
  intro v I1 P1 J1 hq
  obtain ⟨hv, hP, har, hfo, hfJ, hsh2⟩ := hq
  subst hv
  have h93 : I1 95 3 = 0 := (hfo 95 3 (by omega) (by omega)).trans (z_u_s _ _ _ _)
  have hm1 := (hm.u (i := 95) (k := 3) (v := 0) (by decide)).eq (fun k => hfo 96 k (by omega) (by omega))
  have hk1 : zKm I P J I1 P1 J1 := by rw [hP]; exact (zKm.rf.u (by decide)).lo hfo hfJ
  show zJ C g N 7 0 0 I1 P1 J1 9 [(0, .ref (g.1 95)), (1, .int px), (2, .int py)] []
  refine z_iconst (pc := 9) (v := (-1)) hC dX6_hit_9 rfl ?_
  refine z_istore_n (pc := 10) (lv' := [(3, .int (-1)), (0, .ref (g.1 95)), (1, .int px), (2, .int py)]) hC dX6_hit_10 rfl (by decide) rfl ?_
  refine z_iconst (pc := 11) (v := 1) hC dX6_hit_11 rfl ?_
  refine z_istore (pc := 12) (lv' := [(4, .int 1), (3, .int (-1)), (0, .ref (g.1 95)), (1, .int px), (2, .int py)]) hC dX6_hit_12 (by decide) rfl ?_
  refine z_aload_n (pc := 14) hC 2 dX6_hit_14 rfl rfl z_isr_r ?_
  refine z_gF (pc := 15) hC 6 15 (t := 109) rfl (z_lt hC (by decide)) rfl inX6 (by decide) rfl zm_4_88 rfl dX6_hit_15 ?_
  refine z_iconst (pc := 18) (v := 0) hC dX6_hit_18 rfl ?_
  refine z_iconst (pc := 19) (v := 0) hC dX6_hit_19 rfl ?_
  refine z_isN (pc := 20) hC 0 rfl (z_lt hC (by decide)) rfl (by decide) (by decide) dX6_hit_20 ?_
  show zJ C g N 7 0 0 (z_u I1 109 0 0) P1 J1 21 [(4, .int (nI ([0] : List Nat).length)), (3, .int (zlast (scov σ px py) (sPr σ 0) 0)), (0, .ref (g.1 95)), (1, .int px), (2, .int py)] []
  have L21 : ∀ (zf : Nat) (d : Nat) (S : List Nat) (Ir : Nat → Nat → Int32) (hz : zhi σ d S) (hw : zwt Ir S) (hfr : ∀ q j, q ≠ 99 → q ≠ 109 → ¬ (q = 95 ∧ j = 5) → Ir q j = I1 q j) (hd40 : d ≤ 40), 41 - d < zf → zJ C g N 7 0 0 Ir P1 J1 21 [(4, .int (nI S.length)), (3, .int (zlast (scov σ px py) (sPr σ 0) d)), (0, .ref (g.1 95)), (1, .int px), (2, .int py)] [] := by
    intro zf
    induction zf with
    | zero =>
      intro d S Ir hz hw hfr hd40 hn2
      exact absurd hn2 (Nat.not_lt_zero _)
    | succ zf ih =>
      intro d S Ir hz hw hfr hd40 hn2
      have ihO := ih
      have hnO := hn2
      have hmr := hm1.eq (fun k => hfr 96 k (by decide) (by decide) (by omega))
      have hAr : mAr σ Ir := har.fr (fun q j h1 h2 h3 => hfr q j h1 h2 (fun y => h3 y.1))
      have hSl : S.length ≤ 40 := by
        rcases zhi_len hm.1 hz with q | q
        · omega
        · rw [q]; decide
      refine z_iload (pc := 21) hC 0 dX6_hit_21 rfl ?_
      refine z_if_le (pc := 23) (tgt := 101) hC dX6_hit_23 (by decide) (fun h23 => ?_) (fun h23 => ?_)
      · skip
        have g23 := Int32.not_lt.mpr h23
        have eS := zl_nil h23 hSl
        subst eS
        refine z_iload_n (pc := 101) hC 1 dX6_hit_101 rfl rfl ?_
        exact z_iret (pc := 102) hC hE dX6_hit_102 ⟨congrArg (fun y => some (Value.int y)) (zhi_end hm.1 hz px py hd40), (hfr 95 3 (by decide) (by decide) (by omega)).trans h93, hmr, hk1.1, hk1.2.1, fun q j hq => (hfr q j (by omega) (by omega) (by omega)).trans (hk1.2.2 q j hq)⟩
      · skip
        have g23 := Int32.not_le.mp h23
        obtain ⟨b, T, eS⟩ := zl_pos h23 hSl
        subst eS
        obtain ⟨hb40, hbe, hbs⟩ := zhi_b hm.1 hz
        obtain ⟨hat, hnx⟩ := zhi_at hm.1 hz
        have hTl : T.length + 1 ≤ 40 := hSl
        obtain ⟨hw0, hwT⟩ := hw
        have hd1 : d + 1 ≤ 40 := Nat.le_trans (List.getElem?_eq_some_iff.mp hat).1 (sPr_len hm.1)
        show zJ C g N 7 0 0 Ir P1 J1 26 [(4, .int (nI (T.length + 1))), (3, .int (zlast (scov σ px py) (sPr σ 0) d)), (0, .ref (g.1 95)), (1, .int px), (2, .int py)] []
        refine z_iinc (pc := 26) (v := nI T.length) (lv' := [(4, .int (nI T.length)), (3, .int (zlast (scov σ px py) (sPr σ 0) d)), (0, .ref (g.1 95)), (1, .int px), (2, .int py)]) hC 0 dX6_hit_26 rfl (zdec _) (by decide) rfl ?_
        refine z_aload_n (pc := 29) hC 2 dX6_hit_29 rfl rfl z_isr_r ?_
        refine z_gF (pc := 30) hC 6 15 (t := 109) rfl (z_lt hC (by decide)) rfl inX6 (by decide) rfl zm_4_88 rfl dX6_hit_30 ?_
        refine z_iload (pc := 33) hC 0 dX6_hit_33 rfl ?_
        refine z_iaN (pc := 35) hC T.length (x := nI b) rfl (z_lt hC (by decide)) rfl (by omega) (by decide) hw0 dX6_hit_35 ?_
        refine z_istore (pc := 36) (lv' := [(5, .int (nI b)), (4, .int (nI T.length)), (3, .int (zlast (scov σ px py) (sPr σ 0) d)), (0, .ref (g.1 95)), (1, .int px), (2, .int py)]) hC dX6_hit_36 (by decide) rfl ?_
        refine z_aload_n (pc := 38) hC 3 dX6_hit_38 rfl rfl z_isr_r ?_
        refine z_iload (pc := 39) hC 0 dX6_hit_39 rfl ?_
        refine z_iload_n (pc := 41) hC 4 dX6_hit_41 rfl rfl ?_
        refine z_iload_n (pc := 42) hC 5 dX6_hit_42 rfl rfl ?_
        refine z_cV (pc := 43) (st := []) hC [.int (nI b), .int px, .int py] (kX6_covers C.2.1 g N Ir P1 J1 b hb40 px py (hAr b hbs).2.2.1 (hAr b hbs).2.2.2.1 (hAr b hbs).2.2.2.2.1 (hAr b hbs).2.2.2.2.2.1) rfl (z_lt hC (by decide)) rfl zkX6_covers zm_5_134 ⟨rfl, rfl⟩ rfl rfl hRm ⟨Nat.le_of_ble_eq_true rfl, Nat.le_of_ble_eq_true rfl⟩ (Nat.le_of_ble_eq_true rfl) ⟨Nat.zero_le _, Nat.zero_le _⟩ dX6_hit_43 ?_
        refine z_if_eq (pc := 46) (tgt := 54) hC dX6_hit_46 (by decide) (fun h46 => ?_) (fun h46 => ?_)
        · skip
          have g46 := zB_f h46
          refine z_iload_n (pc := 54) hC 2 dX6_hit_54 rfl rfl ?_
          refine z_eqI (show zlast (scov σ px py) (sPr σ 0) d = zlast (scov σ px py) (sPr σ 0) (d + 1) from ((zlast_s hat).trans (if_neg (by rw [g46]; decide))).symm) ?_
          refine z_istore_n (pc := 55) (lv' := [(3, .int (zlast (scov σ px py) (sPr σ 0) (d + 1))), (5, .int (nI b)), (4, .int (nI T.length)), (0, .ref (g.1 95)), (1, .int px), (2, .int py)]) hC dX6_hit_55 rfl (by decide) rfl ?_
          refine z_aload_n (pc := 56) hC 3 dX6_hit_56 rfl rfl z_isr_r ?_
          refine z_iload (pc := 57) hC 1 dX6_hit_57 rfl ?_
          refine z_callV (pc := 59) (st := []) hC [.int (nI b)] ((kX6_layKids C.2.1 g N Ir P1 J1 hmr b hbe)) rfl (z_lt hC (by decide)) rfl zkX6_layKids zm_4_154 ⟨rfl, rfl⟩ rfl rfl hRm ⟨Nat.le_of_ble_eq_true rfl, Nat.le_of_ble_eq_true rfl⟩ (Nat.le_of_ble_eq_true rfl) ⟨Nat.zero_le _, Nat.zero_le _⟩ dX6_hit_59 ?_
          intro v I2 P2 J2 hq
          obtain ⟨hv, hP2, hJ2, hfk, hkq⟩ := hq
          subst hv
          rw [hP2, hJ2]
          have hm2 := hmr.eq (fun k => hfk 96 k (by decide) (by omega))
          have hkm := kn_le hm.1 b
          have hnl := (zhi_len hm.1 hnx).resolve_right
          have hwT2 : zwt I2 T := zwt_fr hwT (fun j _ => hfk 109 j (by decide) (by omega))
          show zJ C g N 7 0 0 I2 P1 J1 62 [(3, .int (zlast (scov σ px py) (sPr σ 0) (d + 1))), (5, .int (nI b)), (4, .int (nI T.length)), (0, .ref (g.1 95)), (1, .int px), (2, .int py)] []
          refine z_aload_n (pc := 62) hC 3 dX6_hit_62 rfl rfl z_isr_r ?_
          refine z_gI (pc := 63) hC 6 5 (x := nI (kn σ b)) rfl (z_lt hC (by decide)) rfl inX6 (by decide) rfl zm_4_78 hkq.1 dX6_hit_63 ?_
          refine z_iconst (pc := 66) (v := 1) hC dX6_hit_66 rfl ?_
          refine z_isub (pc := 67) hC dX6_hit_67 ?_
          refine z_eqI (show (nI (kn σ b)) - 1 = nI (kn σ b) + (-1) from zneg1 _) ?_
          refine z_istore (pc := 68) (lv' := [(6, .int (nI (kn σ b) + (-1))), (3, .int (zlast (scov σ px py) (sPr σ 0) (d + 1))), (5, .int (nI b)), (4, .int (nI T.length)), (0, .ref (g.1 95)), (1, .int px), (2, .int py)]) hC dX6_hit_68 (by decide) rfl ?_
          have L70 : ∀ (zf : Nat) (m : Nat) (Ii : Nat → Nat → Int32) (hmk : m ≤ kn σ b) (hwi : zwt Ii ((sKids σ b).drop m ++ T)) (hfi : ∀ q j, q ≠ 109 → Ii q j = I2 q j), m < zf → zJ C g N 7 0 0 Ii P1 J1 70 [(6, .int (nI m + (-1))), (5, .int (nI b)), (4, .int (nI ((sKids σ b).drop m ++ T).length)), (3, .int (zlast (scov σ px py) (sPr σ 0) (d + 1))), (0, .ref (g.1 95)), (1, .int px), (2, .int py)] [] := by
            intro zf
            induction zf with
            | zero =>
              intro m Ii hmk hwi hfi hn2
              exact absurd hn2 (Nat.not_lt_zero _)
            | succ zf ih =>
              intro m Ii hmk hwi hfi hn2
              have hmi := hm2.eq (fun k => hfi 96 k (by decide))
              refine z_iload (pc := 70) hC 0 dX6_hit_70 rfl ?_
              refine z_if_lt (pc := 72) (tgt := 98) hC dX6_hit_72 (by decide) (fun h72 => ?_) (fun h72 => ?_)
              · skip
                have g72 := Int32.not_le.mpr h72
                have e0 := zdec_t (by omega) h72
                subst e0
                refine z_goto (pc := 98) (tgt := 21) hC dX6_hit_98 (by decide) ?_
                refine z_lvs (lv' := [(4, .int (nI ((sKids σ b).drop 0 ++ T).length)), (3, .int (zlast (scov σ px py) (sPr σ 0) (d + 1))), (0, .ref (g.1 95)), (1, .int px), (2, .int py)]) [2, 3, 4, 5, 6] rfl ?_
                rw [List.drop_zero] at hwi ⊢
                exact ihO (d + 1) (sKids σ b ++ T) Ii hnx hwi (hfr2 hfr hfk hfi) (by omega) (by omega)
              · skip
                have g72 := Int32.not_lt.mp h72
                obtain ⟨k, ek⟩ := zdec_f h72
                subst ek
                rw [zdec k]
                have hkn : k < kn σ b := by omega
                have hdl : ((sKids σ b).drop (k + 1) ++ T).length < 40 := by
                  have e1 := drop_kd hkn
                  have e2 : (sKids σ b ++ T).length ≤ 40 := by
                    rcases zhi_len hm.1 hnx with q | q
                    · omega
                    · rw [q]; decide
                  rw [List.length_append] at e2 ⊢
                  rw [List.length_drop]
                  have e3 : (sKids σ b).length = kn σ b := rfl
                  omega
                refine z_aload_n (pc := 75) hC 4 dX6_hit_75 rfl rfl z_isr_r ?_
                refine z_gF (pc := 76) hC 6 15 (t := 109) rfl (z_lt hC (by decide)) rfl inX6 (by decide) rfl zm_4_88 rfl dX6_hit_76 ?_
                refine z_iload (pc := 79) hC 2 dX6_hit_79 rfl ?_
                refine z_aload_n (pc := 81) hC 4 dX6_hit_81 rfl rfl z_isr_r ?_
                refine z_gF (pc := 82) hC 6 4 (t := 99) rfl (z_lt hC (by decide)) rfl inX6 (by decide) rfl zm_4_77 rfl dX6_hit_82 ?_
                refine z_iload (pc := 85) hC 0 dX6_hit_85 rfl ?_
                refine z_iaN (pc := 87) hC k (x := nI (kd σ b k)) rfl (z_lt hC (by decide)) rfl (by omega) (by decide) ((hfi 99 k (by decide)).trans (hkq.2 k hkn)) dX6_hit_87 ?_
                refine z_isN (pc := 88) hC (((sKids σ b).drop (k + 1) ++ T).length) rfl (z_lt hC (by decide)) rfl (by omega) (by decide) dX6_hit_88 ?_
                refine z_iinc (pc := 89) (v := nI (((sKids σ b).drop (k + 1) ++ T).length + 1)) (lv' := [(4, .int (nI (((sKids σ b).drop (k + 1) ++ T).length + 1))), (6, .int (nI k)), (5, .int (nI b)), (3, .int (zlast (scov σ px py) (sPr σ 0) (d + 1))), (0, .ref (g.1 95)), (1, .int px), (2, .int py)]) hC 2 dX6_hit_89 rfl (nI_1 _) (by decide) rfl ?_
                refine z_iinc (pc := 92) (v := (nI k) + (-1)) (lv' := [(6, .int ((nI k) + (-1))), (4, .int (nI (((sKids σ b).drop (k + 1) ++ T).length + 1))), (5, .int (nI b)), (3, .int (zlast (scov σ px py) (sPr σ 0) (d + 1))), (0, .ref (g.1 95)), (1, .int px), (2, .int py)]) hC 1 dX6_hit_92 rfl rfl (by decide) rfl ?_
                refine z_goto (pc := 95) (tgt := 70) hC dX6_hit_95 (by decide) ?_
                refine z_lvs (lv' := [(6, .int ((nI k) + (-1))), (5, .int (nI b)), (4, .int (nI (((sKids σ b).drop (k + 1) ++ T).length + 1))), (3, .int (zlast (scov σ px py) (sPr σ 0) (d + 1))), (0, .ref (g.1 95)), (1, .int px), (2, .int py)]) [0, 2, 1, 3, 4, 5, 6] rfl ?_
                have K := ih k (z_u Ii 109 ((sKids σ b).drop (k + 1) ++ T).length (nI (kd σ b k))) (by omega) (by rw [drop_kd hkn]; exact zwt_u hwi) (fun q j h1 => (z_u_a _ _ h1).trans (hfi q j h1)) (by omega)
                rw [drop_kd hkn] at K
                exact K
          refine z_lvs (lv' := [(6, .int (nI (kn σ b) + (-1))), (5, .int (nI b)), (4, .int (nI T.length)), (3, .int (zlast (scov σ px py) (sPr σ 0) (d + 1))), (0, .ref (g.1 95)), (1, .int px), (2, .int py)]) [0, 2, 3, 1, 4, 5, 6] rfl ?_
          have K := L70 41 (kn σ b) I2 (Nat.le_refl _) (by rw [List.drop_length]; exact hwT2) (fun q j _ => rfl) (by omega)
          rw [List.drop_length] at K
          exact K
        · skip
          have g46 := zB_t h46
          refine z_iload (pc := 49) hC 0 dX6_hit_49 rfl ?_
          refine z_goto (pc := 51) (tgt := 55) hC dX6_hit_51 (by decide) ?_
          refine z_eqI (show nI b = zlast (scov σ px py) (sPr σ 0) (d + 1) from ((zlast_s hat).trans (if_pos g46)).symm) ?_
          refine z_istore_n (pc := 55) (lv' := [(3, .int (zlast (scov σ px py) (sPr σ 0) (d + 1))), (5, .int (nI b)), (4, .int (nI T.length)), (0, .ref (g.1 95)), (1, .int px), (2, .int py)]) hC dX6_hit_55 rfl (by decide) rfl ?_
          refine z_aload_n (pc := 56) hC 3 dX6_hit_56 rfl rfl z_isr_r ?_
          refine z_iload (pc := 57) hC 1 dX6_hit_57 rfl ?_
          refine z_callV (pc := 59) (st := []) hC [.int (nI b)] ((kX6_layKids C.2.1 g N Ir P1 J1 hmr b hbe)) rfl (z_lt hC (by decide)) rfl zkX6_layKids zm_4_154 ⟨rfl, rfl⟩ rfl rfl hRm ⟨Nat.le_of_ble_eq_true rfl, Nat.le_of_ble_eq_true rfl⟩ (Nat.le_of_ble_eq_true rfl) ⟨Nat.zero_le _, Nat.zero_le _⟩ dX6_hit_59 ?_
          intro v I2 P2 J2 hq
          obtain ⟨hv, hP2, hJ2, hfk, hkq⟩ := hq
          subst hv
          rw [hP2, hJ2]
          have hm2 := hmr.eq (fun k => hfk 96 k (by decide) (by omega))
          have hkm := kn_le hm.1 b
          have hnl := (zhi_len hm.1 hnx).resolve_right
          have hwT2 : zwt I2 T := zwt_fr hwT (fun j _ => hfk 109 j (by decide) (by omega))
          show zJ C g N 7 0 0 I2 P1 J1 62 [(3, .int (zlast (scov σ px py) (sPr σ 0) (d + 1))), (5, .int (nI b)), (4, .int (nI T.length)), (0, .ref (g.1 95)), (1, .int px), (2, .int py)] []
          refine z_aload_n (pc := 62) hC 3 dX6_hit_62 rfl rfl z_isr_r ?_
          refine z_gI (pc := 63) hC 6 5 (x := nI (kn σ b)) rfl (z_lt hC (by decide)) rfl inX6 (by decide) rfl zm_4_78 hkq.1 dX6_hit_63 ?_
          refine z_iconst (pc := 66) (v := 1) hC dX6_hit_66 rfl ?_
          refine z_isub (pc := 67) hC dX6_hit_67 ?_
          refine z_eqI (show (nI (kn σ b)) - 1 = nI (kn σ b) + (-1) from zneg1 _) ?_
          refine z_istore (pc := 68) (lv' := [(6, .int (nI (kn σ b) + (-1))), (3, .int (zlast (scov σ px py) (sPr σ 0) (d + 1))), (5, .int (nI b)), (4, .int (nI T.length)), (0, .ref (g.1 95)), (1, .int px), (2, .int py)]) hC dX6_hit_68 (by decide) rfl ?_
          have L70 : ∀ (zf : Nat) (m : Nat) (Ii : Nat → Nat → Int32) (hmk : m ≤ kn σ b) (hwi : zwt Ii ((sKids σ b).drop m ++ T)) (hfi : ∀ q j, q ≠ 109 → Ii q j = I2 q j), m < zf → zJ C g N 7 0 0 Ii P1 J1 70 [(6, .int (nI m + (-1))), (5, .int (nI b)), (4, .int (nI ((sKids σ b).drop m ++ T).length)), (3, .int (zlast (scov σ px py) (sPr σ 0) (d + 1))), (0, .ref (g.1 95)), (1, .int px), (2, .int py)] [] := by
            intro zf
            induction zf with
            | zero =>
              intro m Ii hmk hwi hfi hn2
              exact absurd hn2 (Nat.not_lt_zero _)
            | succ zf ih =>
              intro m Ii hmk hwi hfi hn2
              have hmi := hm2.eq (fun k => hfi 96 k (by decide))
              refine z_iload (pc := 70) hC 0 dX6_hit_70 rfl ?_
              refine z_if_lt (pc := 72) (tgt := 98) hC dX6_hit_72 (by decide) (fun h72 => ?_) (fun h72 => ?_)
              · skip
                have g72 := Int32.not_le.mpr h72
                have e0 := zdec_t (by omega) h72
                subst e0
                refine z_goto (pc := 98) (tgt := 21) hC dX6_hit_98 (by decide) ?_
                refine z_lvs (lv' := [(4, .int (nI ((sKids σ b).drop 0 ++ T).length)), (3, .int (zlast (scov σ px py) (sPr σ 0) (d + 1))), (0, .ref (g.1 95)), (1, .int px), (2, .int py)]) [2, 3, 4, 5, 6] rfl ?_
                rw [List.drop_zero] at hwi ⊢
                exact ihO (d + 1) (sKids σ b ++ T) Ii hnx hwi (hfr2 hfr hfk hfi) (by omega) (by omega)
              · skip
                have g72 := Int32.not_lt.mp h72
                obtain ⟨k, ek⟩ := zdec_f h72
                subst ek
                rw [zdec k]
                have hkn : k < kn σ b := by omega
                have hdl : ((sKids σ b).drop (k + 1) ++ T).length < 40 := by
                  have e1 := drop_kd hkn
                  have e2 : (sKids σ b ++ T).length ≤ 40 := by
                    rcases zhi_len hm.1 hnx with q | q
                    · omega
                    · rw [q]; decide
                  rw [List.length_append] at e2 ⊢
                  rw [List.length_drop]
                  have e3 : (sKids σ b).length = kn σ b := rfl
                  omega
                refine z_aload_n (pc := 75) hC 4 dX6_hit_75 rfl rfl z_isr_r ?_
                refine z_gF (pc := 76) hC 6 15 (t := 109) rfl (z_lt hC (by decide)) rfl inX6 (by decide) rfl zm_4_88 rfl dX6_hit_76 ?_
                refine z_iload (pc := 79) hC 2 dX6_hit_79 rfl ?_
                refine z_aload_n (pc := 81) hC 4 dX6_hit_81 rfl rfl z_isr_r ?_
                refine z_gF (pc := 82) hC 6 4 (t := 99) rfl (z_lt hC (by decide)) rfl inX6 (by decide) rfl zm_4_77 rfl dX6_hit_82 ?_
                refine z_iload (pc := 85) hC 0 dX6_hit_85 rfl ?_
                refine z_iaN (pc := 87) hC k (x := nI (kd σ b k)) rfl (z_lt hC (by decide)) rfl (by omega) (by decide) ((hfi 99 k (by decide)).trans (hkq.2 k hkn)) dX6_hit_87 ?_
                refine z_isN (pc := 88) hC (((sKids σ b).drop (k + 1) ++ T).length) rfl (z_lt hC (by decide)) rfl (by omega) (by decide) dX6_hit_88 ?_
                refine z_iinc (pc := 89) (v := nI (((sKids σ b).drop (k + 1) ++ T).length + 1)) (lv' := [(4, .int (nI (((sKids σ b).drop (k + 1) ++ T).length + 1))), (6, .int (nI k)), (5, .int (nI b)), (3, .int (zlast (scov σ px py) (sPr σ 0) (d + 1))), (0, .ref (g.1 95)), (1, .int px), (2, .int py)]) hC 2 dX6_hit_89 rfl (nI_1 _) (by decide) rfl ?_
                refine z_iinc (pc := 92) (v := (nI k) + (-1)) (lv' := [(6, .int ((nI k) + (-1))), (4, .int (nI (((sKids σ b).drop (k + 1) ++ T).length + 1))), (5, .int (nI b)), (3, .int (zlast (scov σ px py) (sPr σ 0) (d + 1))), (0, .ref (g.1 95)), (1, .int px), (2, .int py)]) hC 1 dX6_hit_92 rfl rfl (by decide) rfl ?_
                refine z_goto (pc := 95) (tgt := 70) hC dX6_hit_95 (by decide) ?_
                refine z_lvs (lv' := [(6, .int ((nI k) + (-1))), (5, .int (nI b)), (4, .int (nI (((sKids σ b).drop (k + 1) ++ T).length + 1))), (3, .int (zlast (scov σ px py) (sPr σ 0) (d + 1))), (0, .ref (g.1 95)), (1, .int px), (2, .int py)]) [0, 2, 1, 3, 4, 5, 6] rfl ?_
                have K := ih k (z_u Ii 109 ((sKids σ b).drop (k + 1) ++ T).length (nI (kd σ b k))) (by omega) (by rw [drop_kd hkn]; exact zwt_u hwi) (fun q j h1 => (z_u_a _ _ h1).trans (hfi q j h1)) (by omega)
                rw [drop_kd hkn] at K
                exact K
          refine z_lvs (lv' := [(6, .int (nI (kn σ b) + (-1))), (5, .int (nI b)), (4, .int (nI T.length)), (3, .int (zlast (scov σ px py) (sPr σ 0) (d + 1))), (0, .ref (g.1 95)), (1, .int px), (2, .int py)]) [0, 2, 3, 1, 4, 5, 6] rfl ?_
          have K := L70 41 (kn σ b) I2 (Nat.le_refl _) (by rw [List.drop_length]; exact hwT2) (fun q j _ => rfl) (by omega)
          rw [List.drop_length] at K
          exact K
  exact L21 42 0 [0] (z_u I1 109 0 0) zhi_0 ⟨z_u_s _ _ _ _, True.intro⟩ (fun q j _ h _ => z_u_a _ _ h) (by decide) (by decide)
end ZM24
