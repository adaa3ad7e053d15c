section ZM13
theorem z_eqL {C : zC} {g : zG} {N nL cells slots : Nat} {I : Nat → Nat → Int32} {P : Nat → Nat → Option Nat} {J : Nat → Nat → Int64} {pc : Nat} {lv : List (Nat × Value)} {st : List Value} {x y : Int64} (e : x = y) (k : zJ C g N nL cells slots I P J pc lv (.long y :: st)) : zJ C g N nL cells slots I P J pc lv (.long x :: st) := by
  rw [e]
  exact k
/-- the first d items are begun -/
def zbf (σ : zS) (nat : Nat → Int32) (p x fr z : Nat) (sp : Int32) (d : Nat) (I : Nat → Nat → Int32) (J : Nat → Nat → Int64) (Ir : Nat → Nat → Int32) (Jr : Nat → Nat → Int64) : Prop := (∀ q j, q ≠ 106 → ¬ (q = 102 ∧ ∃ i, fr ≤ i ∧ i < fr + d ∧ j = 2 * kd σ p i + x) → Ir q j = I q j) ∧ (∀ q j, q ≠ 107 → Jr q j = J q j) ∧ ∀ j, j < d → Jr 107 (fr + j) = (mFac σ nat p x fr z sp j).toInt64 ∧ Ir 106 (fr + j) = zB (mSt σ nat p x fr z sp j) ∧ Ir 102 (2 * kd σ p (fr + j) + x) = fxStart (mB σ nat p fr) (mLo σ p x fr) (mHi σ p x fr) j
theorem zbf_0 {σ : zS} {nat : Nat → Int32} {p x fr z : Nat} {sp : Int32} {I : Nat → Nat → Int32} {J : Nat → Nat → Int64} : zbf σ nat p x fr z sp 0 I J I J := ⟨fun _ _ _ _ => rfl, fun _ _ _ => rfl, fun j hj => absurd hj (Nat.not_lt_zero _)⟩
theorem zbf_s {σ : zS} {nat : Nat → Int32} {p x fr z : Nat} {sp : Int32} {d : Nat} (hk : fr + d < kn σ p) {I : Nat → Nat → Int32} {J : Nat → Nat → Int64} {Ir : Nat → Nat → Int32} {Jr : Nat → Nat → Int64} (h : zbf σ nat p x fr z sp d I J Ir Jr) {a b : Int32} {l : Int64} (hl : l = (mFac σ nat p x fr z sp d).toInt64) (ha : a = zB (mSt σ nat p x fr z sp d)) (hb : b = fxStart (mB σ nat p fr) (mLo σ p x fr) (mHi σ p x fr) d) : zbf σ nat p x fr z sp (d + 1) I J (z_u (z_u Ir 106 (fr + d) a) 102 (2 * kd σ p (fr + d) + x) b) (z_u Jr 107 (fr + d) l) := by
  refine ⟨fun q j h1 h2 => ?_, fun q j hq => by rw [z_u_a _ _ hq]; exact h.2.1 q j hq, fun j hj => ?_⟩
  · rw [z_u_r2 _ (fun y => h2 ⟨y.1, fr + d, by omega, by omega, y.2⟩), z_u_a _ _ h1]
    exact h.1 q j h1 (fun y => h2 ⟨y.1, by obtain ⟨_, i, y1, y2, y3⟩ := y; exact ⟨i, y1, by omega, y3⟩⟩)
  · by_cases e : j = d
    · rw [e, z_u_s, z_u_s, z_u_a _ _ (by decide), z_u_s]
      exact ⟨hl, ha, hb⟩
    · have ne : kd σ p (fr + j) ≠ kd σ p (fr + d) := fun y => e (by have := kd_inj (σ := σ) (p := p) (i := fr + j) (j := fr + d) (by omega) hk y; omega)
      obtain ⟨q1, q2, q3⟩ := h.2.2 j (by omega)
      refine ⟨?_, ?_, ?_⟩
      · rw [z_u_b _ _ (by omega)]; exact q1
      · rw [z_u_a _ _ (by decide), z_u_b _ _ (by omega)]; exact q2
      · rw [z_u_b _ _ (by omega), z_u_a _ _ (by decide)]; exact q3
theorem mfac_l {x y : Int32} (hx : 0 ≤ x.toInt ∧ x.toInt ≤ 9) (hy : 0 ≤ y.toInt ∧ y.toInt ≤ 10000) : x.toInt64 * y.toInt64 = (x * y).toInt64 := by
  have q := zmul_nn hx.1 hx.2 hy.1 hy.2
  rw [zl_eq, zl_toInt, q.1, Int64.toInt_mul, zl_toInt, zl_toInt]
  apply Int.bmod_eq_of_le <;> omega
theorem zB_or (c : Bool) : zB c = 0 ∨ zB c = 1 := by
  cases c
  · exact Or.inl rfl
  · exact Or.inr rfl
theorem mfac_0 {x : Int32} : x.toInt64 = 0 ↔ x = 0 := by
  rw [zl_eq, zl_toInt, zi_eq]
  exact Iff.rfl
set_option maxHeartbeats 4000000 in
set_option maxRecDepth 100000 in
theorem kX6_beginFlex (lx : Launch) (g : zG) (N : Nat) (I : Nat → Nat → Int32) (P : Nat → Nat → Option Nat) (J : Nat → Nat → Int64) {σ : zS} (hm : zMd σ I) (p : Nat) (he : sEx σ p = true) (hk : zKq σ p I) (fr z x : Nat) (hfz : fr ≤ z) (hzk : z ≤ kn σ p) (ha : x < 2) (nat : Nat → Int32) (hn : ∀ k, k ∈ sKids σ p → I 101 (2 * k + x) = nat k) (hb : zbd σ p nat) (sp : Int32) (hsp : 0 ≤ sp.toInt ∧ sp.toInt ≤ 10000) : z_Ct lx yX6_beginFlex (zT yX6_beginFlex cX6_beginFlex 12 (Option.some FieldType.boolean)) ({ frames := 3, cells := 0, slots := 0, locals := 70 } : Room) g N I P J [.ref (g.1 95), .int (nI p), .int (nI fr), .int (nI z), .int (nI x), .int sp] (fun r I' P' J' => r = some (.int (zB (mGr σ nat p x fr z sp))) ∧ P' = P ∧ zbf σ nat p x fr z sp (z - fr) I J I' J') 0 0 := by
  refine z_of (by decide) (Nat.le_of_ble_eq_true rfl) (lv0 := [(0, .ref (g.1 95)), (1, .int (nI p)), (2, .int (nI fr)), (3, .int (nI z)), (4, .int (nI x)), (5, .int sp)]) rfl ?_
  intro C hlx hC hE hRm
  have hC : zX C cX6_beginFlex 12 RX6 (zT yX6_beginFlex cX6_beginFlex 12 (Option.some FieldType.boolean)) g N := hC
  have J66 : zJ C g N 12 0 0 I P J 66 [(0, .ref (g.1 95)), (1, .int (nI p)), (2, .int (nI fr)), (3, .int (nI z)), (4, .int (nI x)), (5, .int sp)] [.int (zB (mGr σ nat p x fr z sp))] := by
    refine z_istore (pc := 66) (lv' := [(7, .int (zB (mGr σ nat p x fr z sp))), (0, .ref (g.1 95)), (1, .int (nI p)), (2, .int (nI fr)), (3, .int (nI z)), (4, .int (nI x)), (5, .int sp)]) hC dX6_beginFlex_66 (by decide) rfl ?_
    refine z_iload_n (pc := 68) hC 3 dX6_beginFlex_68 rfl rfl ?_
    refine z_istore (pc := 69) (lv' := [(8, .int (nI fr)), (7, .int (zB (mGr σ nat p x fr z sp))), (0, .ref (g.1 95)), (1, .int (nI p)), (2, .int (nI fr)), (3, .int (nI z)), (4, .int (nI x)), (5, .int sp)]) hC dX6_beginFlex_69 (by decide) rfl ?_
    have L71 : ∀ (zf : Nat) (d : Nat) (Ir : Nat → Nat → Int32) (Jr : Nat → Nat → Int64) (hd : d ≤ z - fr) (hz : zbf σ nat p x fr z sp d I J Ir Jr), z - fr - d < zf → zJ C g N 12 0 0 Ir P Jr 71 [(8, .int (nI (fr + d))), (7, .int (zB (mGr σ nat p x fr z sp))), (0, .ref (g.1 95)), (1, .int (nI p)), (2, .int (nI fr)), (3, .int (nI z)), (4, .int (nI x)), (5, .int sp)] [] := by
      intro zf
      induction zf with
      | zero =>
        intro d Ir Jr hd hz hn2
        exact absurd hn2 (Nat.not_lt_zero _)
      | succ zf ih =>
        intro d Ir Jr hd hz hn2
        have hmr := hm.eq (fun k => hz.1 96 k (by decide) (by omega))
        refine z_iload (pc := 71) hC 0 dX6_beginFlex_71 rfl ?_
        refine z_iload_n (pc := 73) hC 5 dX6_beginFlex_73 rfl rfl ?_
        refine z_icmp_ge (pc := 74) (tgt := 209) hC dX6_beginFlex_74 (by decide) (fun h74 => ?_) (fun h74 => ?_)
        · skip
          have g74 := Int32.not_lt.mpr h74
          have hge := zc_ge h74 (by have := kn_le hm.1 p; omega) (by have := kn_le hm.1 p; omega)
          have ed : d = z - fr := by omega
          refine z_iload (pc := 209) hC 1 dX6_beginFlex_209 rfl ?_
          exact z_zret (pc := 211) hC hE (z_b01 (zB_or _)) dX6_beginFlex_211 (by rw [ed] at hz; exact ⟨rfl, rfl, hz⟩)
        · skip
          have g74 := Int32.not_le.mp h74
          have hdz : fr + d < z := zc_lt h74 (by have := kn_le hm.1 p; omega) (by have := kn_le hm.1 p; omega)
          have hkn : fr + d < kn σ p := by omega
          have hk40 := (sKids_lt hm.1 (kd_mem hkn)).2.1
          have hkm := kn_le hm.1 p
          have hrg := mrng hm.1 ha hb hzk (fr := fr) (j := d) (by omega)
          refine z_aload_n (pc := 77) hC 2 dX6_beginFlex_77 rfl rfl z_isr_r ?_
          refine z_gF (pc := 78) hC 6 4 (t := 99) rfl (z_lt hC (by decide)) rfl inX6 (by decide) rfl zm_4_77 rfl dX6_beginFlex_78 ?_
          refine z_iload (pc := 81) hC 0 dX6_beginFlex_81 rfl ?_
          refine z_iaN (pc := 83) hC (fr + d) (x := nI (kd σ p (fr + d))) rfl (z_lt hC (by decide)) rfl (by omega) (by decide) ((hz.1 99 _ (by decide) (by omega)).trans (hk.2 _ hkn)) dX6_beginFlex_83 ?_
          refine z_istore (pc := 84) (lv' := [(9, .int (nI (kd σ p (fr + d)))), (8, .int (nI (fr + d))), (7, .int (zB (mGr σ nat p x fr z sp))), (0, .ref (g.1 95)), (1, .int (nI p)), (2, .int (nI fr)), (3, .int (nI z)), (4, .int (nI x)), (5, .int sp)]) hC dX6_beginFlex_84 (by decide) rfl ?_
          refine z_aload_n (pc := 86) hC 3 dX6_beginFlex_86 rfl rfl z_isr_r ?_
          refine z_iload (pc := 87) hC 0 dX6_beginFlex_87 rfl ?_
          refine z_iload (pc := 89) hC 7 dX6_beginFlex_89 rfl ?_
          refine z_cV (pc := 91) (st := []) hC [.int (nI (kd σ p (fr + d))), .int (nI x)] (kX6_baseOf C.2.1 g N Ir P Jr hmr (kd σ p (fr + d)) x (sKids_lt hm.1 (kd_mem hkn)).2.2.1 ha nat ((hz.1 101 _ (by decide) (by omega)).trans (hn _ (kd_mem hkn)))) rfl (z_lt hC (by decide)) rfl zkX6_baseOf zm_5_31 ⟨rfl, rfl⟩ rfl rfl hRm ⟨Nat.le_of_ble_eq_true rfl, Nat.le_of_ble_eq_true rfl⟩ (Nat.le_of_ble_eq_true rfl) ⟨Nat.zero_le _, Nat.zero_le _⟩ dX6_beginFlex_91 ?_
          refine z_istore (pc := 94) (lv' := [(10, .int (sB σ nat (kd σ p (fr + d)))), (9, .int (nI (kd σ p (fr + d)))), (8, .int (nI (fr + d))), (7, .int (zB (mGr σ nat p x fr z sp))), (0, .ref (g.1 95)), (1, .int (nI p)), (2, .int (nI fr)), (3, .int (nI z)), (4, .int (nI x)), (5, .int sp)]) hC dX6_beginFlex_94 (by decide) rfl ?_
          refine z_aload_n (pc := 96) hC 4 dX6_beginFlex_96 rfl rfl z_isr_r ?_
          refine z_iload (pc := 97) hC 1 dX6_beginFlex_97 rfl ?_
          refine z_iload (pc := 99) hC 8 dX6_beginFlex_99 rfl ?_
          refine z_cV (pc := 101) (st := []) hC [.int (nI (kd σ p (fr + d))), .int (nI x)] (kX6_startOf C.2.1 g N Ir P Jr hmr (kd σ p (fr + d)) x (sKids_lt hm.1 (kd_mem hkn)).2.2.1 ha nat ((hz.1 101 _ (by decide) (by omega)).trans (hn _ (kd_mem hkn)))) rfl (z_lt hC (by decide)) rfl zkX6_startOf zm_5_27 ⟨rfl, rfl⟩ rfl rfl hRm ⟨Nat.le_of_ble_eq_true rfl, Nat.le_of_ble_eq_true rfl⟩ (Nat.le_of_ble_eq_true rfl) ⟨Nat.zero_le _, Nat.zero_le _⟩ dX6_beginFlex_101 ?_
          refine z_istore (pc := 104) (lv' := [(11, .int (zlim (sB σ nat (kd σ p (fr + d))) (sSt σ (kd σ p (fr + d)) (12 + x)) (sSt σ (kd σ p (fr + d)) (14 + x)))), (10, .int (sB σ nat (kd σ p (fr + d)))), (9, .int (nI (kd σ p (fr + d)))), (8, .int (nI (fr + d))), (7, .int (zB (mGr σ nat p x fr z sp))), (0, .ref (g.1 95)), (1, .int (nI p)), (2, .int (nI fr)), (3, .int (nI z)), (4, .int (nI x)), (5, .int sp)]) hC dX6_beginFlex_104 (by decide) rfl ?_
          refine z_aload_n (pc := 106) hC 5 dX6_beginFlex_106 rfl rfl z_isr_r ?_
          refine z_gF (pc := 107) hC 6 13 (t := 107) rfl (z_lt hC (by decide)) rfl inX6 (by decide) rfl zm_4_86 rfl dX6_beginFlex_107 ?_
          refine z_iload (pc := 110) hC 3 dX6_beginFlex_110 rfl ?_
          refine z_iload (pc := 112) hC 4 dX6_beginFlex_112 rfl ?_
          refine z_if_eq (pc := 114) (tgt := 129) hC dX6_beginFlex_114 (by decide) (fun h114 => ?_) (fun h114 => ?_)
          · skip
            have g114 := zB_f h114
            refine z_aload_n (pc := 129) hC 5 dX6_beginFlex_129 rfl rfl z_isr_r ?_
            refine z_iload (pc := 130) hC 2 dX6_beginFlex_130 rfl ?_
            refine z_bipush (pc := 132) (v := 9) hC dX6_beginFlex_132 rfl ?_
            refine z_cV (pc := 134) (st := [.int (nI (fr + d)), .ref (g.1 107)]) hC [.int (nI (kd σ p (fr + d))), .int 9] (kX6_of C.2.1 g N Ir P Jr hmr (kd σ p (fr + d)) 9 (sKids_lt hm.1 (kd_mem hkn)).2.2.1 (by decide) 9 rfl) rfl (z_lt hC (by decide)) rfl zkX6_of zm_4_162 ⟨rfl, rfl⟩ rfl rfl hRm ⟨Nat.le_of_ble_eq_true rfl, Nat.le_of_ble_eq_true rfl⟩ (Nat.le_of_ble_eq_true rfl) ⟨Nat.zero_le _, Nat.zero_le _⟩ dX6_beginFlex_134 ?_
            refine z_i2l (pc := 137) hC dX6_beginFlex_137 ?_
            refine z_iload (pc := 138) hC 1 dX6_beginFlex_138 rfl ?_
            refine z_i2l (pc := 140) hC dX6_beginFlex_140 ?_
            refine z_lmul (pc := 141) hC dX6_beginFlex_141 ?_
            refine z_eqL (show ((sSt σ (kd σ p (fr + d)) 9).toInt64) * ((sB σ nat (kd σ p (fr + d))).toInt64) = (mFac σ nat p x fr z sp d).toInt64 from (mfac_l hrg.2.2.2.2.2 hrg.1).trans (by unfold mFac fxFac; rw [g114]; rfl)) ?_
            refine z_lsN (pc := 142) hC (fr + d) rfl (z_lt hC (by decide)) rfl (by omega) (by decide) dX6_beginFlex_142 ?_
            refine z_aload_n (pc := 143) hC 5 dX6_beginFlex_143 rfl rfl z_isr_r ?_
            refine z_gF (pc := 144) hC 6 12 (t := 106) rfl (z_lt hC (by decide)) rfl inX6 (by decide) rfl zm_4_85 rfl dX6_beginFlex_144 ?_
            refine z_iload (pc := 147) hC 3 dX6_beginFlex_147 rfl ?_
            refine z_aload_n (pc := 149) hC 5 dX6_beginFlex_149 rfl rfl z_isr_r ?_
            refine z_gF (pc := 150) hC 6 13 (t := 107) rfl (z_lt hC (by decide)) rfl inX6 (by decide) rfl zm_4_86 rfl dX6_beginFlex_150 ?_
            refine z_iload (pc := 153) hC 3 dX6_beginFlex_153 rfl ?_
            refine z_laN (pc := 155) hC (fr + d) (x := (mFac σ nat p x fr z sp d).toInt64) rfl (z_lt hC (by decide)) rfl (by omega) (by decide) (z_u_s _ _ _ _) dX6_beginFlex_155 ?_
            refine z_lconst (pc := 156) (v := 0) hC dX6_beginFlex_156 rfl ?_
            refine z_lcmp (pc := 157) hC dX6_beginFlex_157 ?_
            refine z_if_eq (pc := 158) (tgt := 183) hC dX6_beginFlex_158 (by decide) (fun h158 => ?_) (fun h158 => ?_)
            · skip
              refine z_iconst (pc := 183) (v := 1) hC dX6_beginFlex_183 rfl ?_
              refine z_goto (pc := 184) (tgt := 188) hC dX6_beginFlex_184 (by decide) ?_
              refine z_zsN (pc := 188) hC (fr + d) rfl (z_lt hC (by decide)) rfl (by omega) (by decide) (Or.inr rfl) dX6_beginFlex_188 ?_
              refine z_aload_n (pc := 189) hC 5 dX6_beginFlex_189 rfl rfl z_isr_r ?_
              refine z_gF (pc := 190) hC 6 8 (t := 102) rfl (z_lt hC (by decide)) rfl inX6 (by decide) rfl zm_4_81 rfl dX6_beginFlex_190 ?_
              refine z_iconst (pc := 193) (v := 2) hC dX6_beginFlex_193 rfl ?_
              refine z_iload (pc := 194) hC 2 dX6_beginFlex_194 rfl ?_
              refine z_imul (pc := 196) hC dX6_beginFlex_196 ?_
              refine z_iload (pc := 197) hC 9 dX6_beginFlex_197 rfl ?_
              refine z_iadd (pc := 199) hC dX6_beginFlex_199 ?_
              refine z_iload (pc := 200) hC 0 dX6_beginFlex_200 rfl ?_
              refine z_isN (pc := 202) hC (2 * (kd σ p (fr + d)) + x) rfl (z_lt hC (by decide)) (zix2 (kd σ p (fr + d)) x) (by omega) (by decide) dX6_beginFlex_202 ?_
              refine z_iinc (pc := 203) (v := nI (fr + (d + 1))) (lv' := [(8, .int (nI (fr + (d + 1)))), (11, .int (zlim (sB σ nat (kd σ p (fr + d))) (sSt σ (kd σ p (fr + d)) (12 + x)) (sSt σ (kd σ p (fr + d)) (14 + x)))), (10, .int (sB σ nat (kd σ p (fr + d)))), (9, .int (nI (kd σ p (fr + d)))), (7, .int (zB (mGr σ nat p x fr z sp))), (0, .ref (g.1 95)), (1, .int (nI p)), (2, .int (nI fr)), (3, .int (nI z)), (4, .int (nI x)), (5, .int sp)]) hC 3 dX6_beginFlex_203 rfl (nI_1 (fr + d)) (by decide) rfl ?_
              refine z_goto (pc := 206) (tgt := 71) hC dX6_beginFlex_206 (by decide) ?_
              refine z_lvs (lv' := [(8, .int (nI (fr + (d + 1)))), (7, .int (zB (mGr σ nat p x fr z sp))), (0, .ref (g.1 95)), (1, .int (nI p)), (2, .int (nI fr)), (3, .int (nI z)), (4, .int (nI x)), (5, .int sp)]) [0, 4, 5, 6, 7, 8, 9, 10] rfl ?_
              exact ih (d + 1) _ _ (by omega) (zbf_s hkn hz rfl (by unfold mSt fxSt0; rw [decide_eq_true (mfac_0.mp (zlc_eq h158))]; rfl) rfl) (by omega)
            · skip
              refine z_iload (pc := 161) hC 4 dX6_beginFlex_161 rfl ?_
              refine z_if_eq (pc := 163) (tgt := 176) hC dX6_beginFlex_163 (by decide) (fun h163 => ?_) (fun h163 => ?_)
              · skip
                have g163 := zB_f h163
                refine z_iload (pc := 176) hC 1 dX6_beginFlex_176 rfl ?_
                refine z_iload (pc := 178) hC 0 dX6_beginFlex_178 rfl ?_
                refine z_icmp_ge (pc := 180) (tgt := 187) hC dX6_beginFlex_180 (by decide) (fun h180 => ?_) (fun h180 => ?_)
                · skip
                  have g180 := Int32.not_lt.mpr h180
                  refine z_iconst (pc := 187) (v := 0) hC dX6_beginFlex_187 rfl ?_
                  refine z_zsN (pc := 188) hC (fr + d) rfl (z_lt hC (by decide)) rfl (by omega) (by decide) (Or.inl rfl) dX6_beginFlex_188 ?_
                  refine z_aload_n (pc := 189) hC 5 dX6_beginFlex_189 rfl rfl z_isr_r ?_
                  refine z_gF (pc := 190) hC 6 8 (t := 102) rfl (z_lt hC (by decide)) rfl inX6 (by decide) rfl zm_4_81 rfl dX6_beginFlex_190 ?_
                  refine z_iconst (pc := 193) (v := 2) hC dX6_beginFlex_193 rfl ?_
                  refine z_iload (pc := 194) hC 2 dX6_beginFlex_194 rfl ?_
                  refine z_imul (pc := 196) hC dX6_beginFlex_196 ?_
                  refine z_iload (pc := 197) hC 9 dX6_beginFlex_197 rfl ?_
                  refine z_iadd (pc := 199) hC dX6_beginFlex_199 ?_
                  refine z_iload (pc := 200) hC 0 dX6_beginFlex_200 rfl ?_
                  refine z_isN (pc := 202) hC (2 * (kd σ p (fr + d)) + x) rfl (z_lt hC (by decide)) (zix2 (kd σ p (fr + d)) x) (by omega) (by decide) dX6_beginFlex_202 ?_
                  refine z_iinc (pc := 203) (v := nI (fr + (d + 1))) (lv' := [(8, .int (nI (fr + (d + 1)))), (11, .int (zlim (sB σ nat (kd σ p (fr + d))) (sSt σ (kd σ p (fr + d)) (12 + x)) (sSt σ (kd σ p (fr + d)) (14 + x)))), (10, .int (sB σ nat (kd σ p (fr + d)))), (9, .int (nI (kd σ p (fr + d)))), (7, .int (zB (mGr σ nat p x fr z sp))), (0, .ref (g.1 95)), (1, .int (nI p)), (2, .int (nI fr)), (3, .int (nI z)), (4, .int (nI x)), (5, .int sp)]) hC 3 dX6_beginFlex_203 rfl (nI_1 (fr + d)) (by decide) rfl ?_
                  refine z_goto (pc := 206) (tgt := 71) hC dX6_beginFlex_206 (by decide) ?_
                  refine z_lvs (lv' := [(8, .int (nI (fr + (d + 1)))), (7, .int (zB (mGr σ nat p x fr z sp))), (0, .ref (g.1 95)), (1, .int (nI p)), (2, .int (nI fr)), (3, .int (nI z)), (4, .int (nI x)), (5, .int sp)]) [0, 4, 5, 6, 7, 8, 9, 10] rfl ?_
                  exact ih (d + 1) _ _ (by omega) (zbf_s hkn hz rfl (by unfold mSt fxSt0; rw [decide_eq_false (fun q => zlc_ne h158 (mfac_0.mpr q)), g163, if_neg (by decide), decide_eq_false (show ¬ mB σ nat p fr d < fxStart (mB σ nat p fr) (mLo σ p x fr) (mHi σ p x fr) d from Int32.not_lt.mpr h180)]; rfl) rfl) (by omega)
                · skip
                  have g180 := Int32.not_le.mp h180
                  refine z_iconst (pc := 183) (v := 1) hC dX6_beginFlex_183 rfl ?_
                  refine z_goto (pc := 184) (tgt := 188) hC dX6_beginFlex_184 (by decide) ?_
                  refine z_zsN (pc := 188) hC (fr + d) rfl (z_lt hC (by decide)) rfl (by omega) (by decide) (Or.inr rfl) dX6_beginFlex_188 ?_
                  refine z_aload_n (pc := 189) hC 5 dX6_beginFlex_189 rfl rfl z_isr_r ?_
                  refine z_gF (pc := 190) hC 6 8 (t := 102) rfl (z_lt hC (by decide)) rfl inX6 (by decide) rfl zm_4_81 rfl dX6_beginFlex_190 ?_
                  refine z_iconst (pc := 193) (v := 2) hC dX6_beginFlex_193 rfl ?_
                  refine z_iload (pc := 194) hC 2 dX6_beginFlex_194 rfl ?_
                  refine z_imul (pc := 196) hC dX6_beginFlex_196 ?_
                  refine z_iload (pc := 197) hC 9 dX6_beginFlex_197 rfl ?_
                  refine z_iadd (pc := 199) hC dX6_beginFlex_199 ?_
                  refine z_iload (pc := 200) hC 0 dX6_beginFlex_200 rfl ?_
                  refine z_isN (pc := 202) hC (2 * (kd σ p (fr + d)) + x) rfl (z_lt hC (by decide)) (zix2 (kd σ p (fr + d)) x) (by omega) (by decide) dX6_beginFlex_202 ?_
                  refine z_iinc (pc := 203) (v := nI (fr + (d + 1))) (lv' := [(8, .int (nI (fr + (d + 1)))), (11, .int (zlim (sB σ nat (kd σ p (fr + d))) (sSt σ (kd σ p (fr + d)) (12 + x)) (sSt σ (kd σ p (fr + d)) (14 + x)))), (10, .int (sB σ nat (kd σ p (fr + d)))), (9, .int (nI (kd σ p (fr + d)))), (7, .int (zB (mGr σ nat p x fr z sp))), (0, .ref (g.1 95)), (1, .int (nI p)), (2, .int (nI fr)), (3, .int (nI z)), (4, .int (nI x)), (5, .int sp)]) hC 3 dX6_beginFlex_203 rfl (nI_1 (fr + d)) (by decide) rfl ?_
                  refine z_goto (pc := 206) (tgt := 71) hC dX6_beginFlex_206 (by decide) ?_
                  refine z_lvs (lv' := [(8, .int (nI (fr + (d + 1)))), (7, .int (zB (mGr σ nat p x fr z sp))), (0, .ref (g.1 95)), (1, .int (nI p)), (2, .int (nI fr)), (3, .int (nI z)), (4, .int (nI x)), (5, .int sp)]) [0, 4, 5, 6, 7, 8, 9, 10] rfl ?_
                  exact ih (d + 1) _ _ (by omega) (zbf_s hkn hz rfl (by unfold mSt fxSt0; rw [decide_eq_false (fun q => zlc_ne h158 (mfac_0.mpr q)), g163, if_neg (by decide), decide_eq_true (show mB σ nat p fr d < fxStart (mB σ nat p fr) (mLo σ p x fr) (mHi σ p x fr) d from Int32.not_le.mp h180)]; rfl) rfl) (by omega)
              · skip
                have g163 := zB_t h163
                rw [g114] at g163
                cases g163
          · skip
            have g114 := zB_t h114
            refine z_aload_n (pc := 117) hC 5 dX6_beginFlex_117 rfl rfl z_isr_r ?_
            refine z_iload (pc := 118) hC 2 dX6_beginFlex_118 rfl ?_
            refine z_bipush (pc := 120) (v := 8) hC dX6_beginFlex_120 rfl ?_
            refine z_cV (pc := 122) (st := [.int (nI (fr + d)), .ref (g.1 107)]) hC [.int (nI (kd σ p (fr + d))), .int 8] (kX6_of C.2.1 g N Ir P Jr hmr (kd σ p (fr + d)) 8 (sKids_lt hm.1 (kd_mem hkn)).2.2.1 (by decide) 8 rfl) rfl (z_lt hC (by decide)) rfl zkX6_of zm_4_162 ⟨rfl, rfl⟩ rfl rfl hRm ⟨Nat.le_of_ble_eq_true rfl, Nat.le_of_ble_eq_true rfl⟩ (Nat.le_of_ble_eq_true rfl) ⟨Nat.zero_le _, Nat.zero_le _⟩ dX6_beginFlex_122 ?_
            refine z_i2l (pc := 125) hC dX6_beginFlex_125 ?_
            refine z_goto (pc := 126) (tgt := 142) hC dX6_beginFlex_126 (by decide) ?_
            refine z_eqL (show (sSt σ (kd σ p (fr + d)) 8).toInt64 = (mFac σ nat p x fr z sp d).toInt64 from by unfold mFac fxFac; rw [g114]; rfl) ?_
            refine z_lsN (pc := 142) hC (fr + d) rfl (z_lt hC (by decide)) rfl (by omega) (by decide) dX6_beginFlex_142 ?_
            refine z_aload_n (pc := 143) hC 5 dX6_beginFlex_143 rfl rfl z_isr_r ?_
            refine z_gF (pc := 144) hC 6 12 (t := 106) rfl (z_lt hC (by decide)) rfl inX6 (by decide) rfl zm_4_85 rfl dX6_beginFlex_144 ?_
            refine z_iload (pc := 147) hC 3 dX6_beginFlex_147 rfl ?_
            refine z_aload_n (pc := 149) hC 5 dX6_beginFlex_149 rfl rfl z_isr_r ?_
            refine z_gF (pc := 150) hC 6 13 (t := 107) rfl (z_lt hC (by decide)) rfl inX6 (by decide) rfl zm_4_86 rfl dX6_beginFlex_150 ?_
            refine z_iload (pc := 153) hC 3 dX6_beginFlex_153 rfl ?_
            refine z_laN (pc := 155) hC (fr + d) (x := (mFac σ nat p x fr z sp d).toInt64) rfl (z_lt hC (by decide)) rfl (by omega) (by decide) (z_u_s _ _ _ _) dX6_beginFlex_155 ?_
            refine z_lconst (pc := 156) (v := 0) hC dX6_beginFlex_156 rfl ?_
            refine z_lcmp (pc := 157) hC dX6_beginFlex_157 ?_
            refine z_if_eq (pc := 158) (tgt := 183) hC dX6_beginFlex_158 (by decide) (fun h158 => ?_) (fun h158 => ?_)
            · skip
              refine z_iconst (pc := 183) (v := 1) hC dX6_beginFlex_183 rfl ?_
              refine z_goto (pc := 184) (tgt := 188) hC dX6_beginFlex_184 (by decide) ?_
              refine z_zsN (pc := 188) hC (fr + d) rfl (z_lt hC (by decide)) rfl (by omega) (by decide) (Or.inr rfl) dX6_beginFlex_188 ?_
              refine z_aload_n (pc := 189) hC 5 dX6_beginFlex_189 rfl rfl z_isr_r ?_
              refine z_gF (pc := 190) hC 6 8 (t := 102) rfl (z_lt hC (by decide)) rfl inX6 (by decide) rfl zm_4_81 rfl dX6_beginFlex_190 ?_
              refine z_iconst (pc := 193) (v := 2) hC dX6_beginFlex_193 rfl ?_
              refine z_iload (pc := 194) hC 2 dX6_beginFlex_194 rfl ?_
              refine z_imul (pc := 196) hC dX6_beginFlex_196 ?_
              refine z_iload (pc := 197) hC 9 dX6_beginFlex_197 rfl ?_
              refine z_iadd (pc := 199) hC dX6_beginFlex_199 ?_
              refine z_iload (pc := 200) hC 0 dX6_beginFlex_200 rfl ?_
              refine z_isN (pc := 202) hC (2 * (kd σ p (fr + d)) + x) rfl (z_lt hC (by decide)) (zix2 (kd σ p (fr + d)) x) (by omega) (by decide) dX6_beginFlex_202 ?_
              refine z_iinc (pc := 203) (v := nI (fr + (d + 1))) (lv' := [(8, .int (nI (fr + (d + 1)))), (11, .int (zlim (sB σ nat (kd σ p (fr + d))) (sSt σ (kd σ p (fr + d)) (12 + x)) (sSt σ (kd σ p (fr + d)) (14 + x)))), (10, .int (sB σ nat (kd σ p (fr + d)))), (9, .int (nI (kd σ p (fr + d)))), (7, .int (zB (mGr σ nat p x fr z sp))), (0, .ref (g.1 95)), (1, .int (nI p)), (2, .int (nI fr)), (3, .int (nI z)), (4, .int (nI x)), (5, .int sp)]) hC 3 dX6_beginFlex_203 rfl (nI_1 (fr + d)) (by decide) rfl ?_
              refine z_goto (pc := 206) (tgt := 71) hC dX6_beginFlex_206 (by decide) ?_
              refine z_lvs (lv' := [(8, .int (nI (fr + (d + 1)))), (7, .int (zB (mGr σ nat p x fr z sp))), (0, .ref (g.1 95)), (1, .int (nI p)), (2, .int (nI fr)), (3, .int (nI z)), (4, .int (nI x)), (5, .int sp)]) [0, 4, 5, 6, 7, 8, 9, 10] rfl ?_
              exact ih (d + 1) _ _ (by omega) (zbf_s hkn hz rfl (by unfold mSt fxSt0; rw [decide_eq_true (mfac_0.mp (zlc_eq h158))]; rfl) rfl) (by omega)
            · skip
              refine z_iload (pc := 161) hC 4 dX6_beginFlex_161 rfl ?_
              refine z_if_eq (pc := 163) (tgt := 176) hC dX6_beginFlex_163 (by decide) (fun h163 => ?_) (fun h163 => ?_)
              · skip
                have g163 := zB_f h163
                rw [g114] at g163
                cases g163
              · skip
                have g163 := zB_t h163
                refine z_iload (pc := 166) hC 1 dX6_beginFlex_166 rfl ?_
                refine z_iload (pc := 168) hC 0 dX6_beginFlex_168 rfl ?_
                refine z_icmp_le (pc := 170) (tgt := 187) hC dX6_beginFlex_170 (by decide) (fun h170 => ?_) (fun h170 => ?_)
                · skip
                  have g170 := Int32.not_lt.mpr h170
                  refine z_iconst (pc := 187) (v := 0) hC dX6_beginFlex_187 rfl ?_
                  refine z_zsN (pc := 188) hC (fr + d) rfl (z_lt hC (by decide)) rfl (by omega) (by decide) (Or.inl rfl) dX6_beginFlex_188 ?_
                  refine z_aload_n (pc := 189) hC 5 dX6_beginFlex_189 rfl rfl z_isr_r ?_
                  refine z_gF (pc := 190) hC 6 8 (t := 102) rfl (z_lt hC (by decide)) rfl inX6 (by decide) rfl zm_4_81 rfl dX6_beginFlex_190 ?_
                  refine z_iconst (pc := 193) (v := 2) hC dX6_beginFlex_193 rfl ?_
                  refine z_iload (pc := 194) hC 2 dX6_beginFlex_194 rfl ?_
                  refine z_imul (pc := 196) hC dX6_beginFlex_196 ?_
                  refine z_iload (pc := 197) hC 9 dX6_beginFlex_197 rfl ?_
                  refine z_iadd (pc := 199) hC dX6_beginFlex_199 ?_
                  refine z_iload (pc := 200) hC 0 dX6_beginFlex_200 rfl ?_
                  refine z_isN (pc := 202) hC (2 * (kd σ p (fr + d)) + x) rfl (z_lt hC (by decide)) (zix2 (kd σ p (fr + d)) x) (by omega) (by decide) dX6_beginFlex_202 ?_
                  refine z_iinc (pc := 203) (v := nI (fr + (d + 1))) (lv' := [(8, .int (nI (fr + (d + 1)))), (11, .int (zlim (sB σ nat (kd σ p (fr + d))) (sSt σ (kd σ p (fr + d)) (12 + x)) (sSt σ (kd σ p (fr + d)) (14 + x)))), (10, .int (sB σ nat (kd σ p (fr + d)))), (9, .int (nI (kd σ p (fr + d)))), (7, .int (zB (mGr σ nat p x fr z sp))), (0, .ref (g.1 95)), (1, .int (nI p)), (2, .int (nI fr)), (3, .int (nI z)), (4, .int (nI x)), (5, .int sp)]) hC 3 dX6_beginFlex_203 rfl (nI_1 (fr + d)) (by decide) rfl ?_
                  refine z_goto (pc := 206) (tgt := 71) hC dX6_beginFlex_206 (by decide) ?_
                  refine z_lvs (lv' := [(8, .int (nI (fr + (d + 1)))), (7, .int (zB (mGr σ nat p x fr z sp))), (0, .ref (g.1 95)), (1, .int (nI p)), (2, .int (nI fr)), (3, .int (nI z)), (4, .int (nI x)), (5, .int sp)]) [0, 4, 5, 6, 7, 8, 9, 10] rfl ?_
                  exact ih (d + 1) _ _ (by omega) (zbf_s hkn hz rfl (by unfold mSt fxSt0; rw [decide_eq_false (fun q => zlc_ne h158 (mfac_0.mpr q)), g163, if_pos rfl, decide_eq_false (show ¬ fxStart (mB σ nat p fr) (mLo σ p x fr) (mHi σ p x fr) d < mB σ nat p fr d from Int32.not_lt.mpr h170)]; rfl) rfl) (by omega)
                · skip
                  have g170 := Int32.not_le.mp h170
                  refine z_goto (pc := 173) (tgt := 183) hC dX6_beginFlex_173 (by decide) ?_
                  refine z_iconst (pc := 183) (v := 1) hC dX6_beginFlex_183 rfl ?_
                  refine z_goto (pc := 184) (tgt := 188) hC dX6_beginFlex_184 (by decide) ?_
                  refine z_zsN (pc := 188) hC (fr + d) rfl (z_lt hC (by decide)) rfl (by omega) (by decide) (Or.inr rfl) dX6_beginFlex_188 ?_
                  refine z_aload_n (pc := 189) hC 5 dX6_beginFlex_189 rfl rfl z_isr_r ?_
                  refine z_gF (pc := 190) hC 6 8 (t := 102) rfl (z_lt hC (by decide)) rfl inX6 (by decide) rfl zm_4_81 rfl dX6_beginFlex_190 ?_
                  refine z_iconst (pc := 193) (v := 2) hC dX6_beginFlex_193 rfl ?_
                  refine z_iload (pc := 194) hC 2 dX6_beginFlex_194 rfl ?_
                  refine z_imul (pc := 196) hC dX6_beginFlex_196 ?_
                  refine z_iload (pc := 197) hC 9 dX6_beginFlex_197 rfl ?_
                  refine z_iadd (pc := 199) hC dX6_beginFlex_199 ?_
                  refine z_iload (pc := 200) hC 0 dX6_beginFlex_200 rfl ?_
                  refine z_isN (pc := 202) hC (2 * (kd σ p (fr + d)) + x) rfl (z_lt hC (by decide)) (zix2 (kd σ p (fr + d)) x) (by omega) (by decide) dX6_beginFlex_202 ?_
                  refine z_iinc (pc := 203) (v := nI (fr + (d + 1))) (lv' := [(8, .int (nI (fr + (d + 1)))), (11, .int (zlim (sB σ nat (kd σ p (fr + d))) (sSt σ (kd σ p (fr + d)) (12 + x)) (sSt σ (kd σ p (fr + d)) (14 + x)))), (10, .int (sB σ nat (kd σ p (fr + d)))), (9, .int (nI (kd σ p (fr + d)))), (7, .int (zB (mGr σ nat p x fr z sp))), (0, .ref (g.1 95)), (1, .int (nI p)), (2, .int (nI fr)), (3, .int (nI z)), (4, .int (nI x)), (5, .int sp)]) hC 3 dX6_beginFlex_203 rfl (nI_1 (fr + d)) (by decide) rfl ?_
                  refine z_goto (pc := 206) (tgt := 71) hC dX6_beginFlex_206 (by decide) ?_
                  refine z_lvs (lv' := [(8, .int (nI (fr + (d + 1)))), (7, .int (zB (mGr σ nat p x fr z sp))), (0, .ref (g.1 95)), (1, .int (nI p)), (2, .int (nI fr)), (3, .int (nI z)), (4, .int (nI x)), (5, .int sp)]) [0, 4, 5, 6, 7, 8, 9, 10] rfl ?_
                  exact ih (d + 1) _ _ (by omega) (zbf_s hkn hz rfl (by unfold mSt fxSt0; rw [decide_eq_false (fun q => zlc_ne h158 (mfac_0.mpr q)), g163, if_pos rfl, decide_eq_true (show fxStart (mB σ nat p fr) (mLo σ p x fr) (mHi σ p x fr) d < mB σ nat p fr d from Int32.not_le.mp h170)]; rfl) rfl) (by omega)
    exact L71 41 0 _ _ (Nat.zero_le _) zbf_0 (by have := kn_le hm.1 p; omega)
  refine z_aload_n (pc := 0) hC 0 dX6_beginFlex_0 rfl rfl z_isr_r ?_
  refine z_iload_n (pc := 1) hC 1 dX6_beginFlex_1 rfl rfl ?_
  refine z_iload_n (pc := 2) hC 3 dX6_beginFlex_2 rfl rfl ?_
  refine z_iload_n (pc := 3) hC 2 dX6_beginFlex_3 rfl rfl ?_
  refine z_isub (pc := 4) hC dX6_beginFlex_4 ?_
  refine z_eqI (show (nI z) - (nI fr) = nI (z - fr) from nI_sub hfz) ?_
  refine z_cV (pc := 5) (st := []) hC [.int (nI p), .int (nI (z - fr))] (kX6_gapsOf C.2.1 g N I P J hm p he (nI (z - fr))) rfl (z_lt hC (by decide)) rfl zkX6_gapsOf zm_4_224 ⟨rfl, rfl⟩ rfl rfl hRm ⟨Nat.le_of_ble_eq_true rfl, Nat.le_of_ble_eq_true rfl⟩ (Nat.le_of_ble_eq_true rfl) ⟨Nat.zero_le _, Nat.zero_le _⟩ dX6_beginFlex_5 ?_
  refine z_istore (pc := 8) (lv' := [(6, .int (zgap (nI (z - fr)) (sSt σ p 4))), (0, .ref (g.1 95)), (1, .int (nI p)), (2, .int (nI fr)), (3, .int (nI z)), (4, .int (nI x)), (5, .int sp)]) hC dX6_beginFlex_8 (by decide) rfl ?_
  refine z_iload_n (pc := 10) hC 3 dX6_beginFlex_10 rfl rfl ?_
  refine z_istore (pc := 11) (lv' := [(7, .int (nI fr)), (6, .int (zgap (nI (z - fr)) (sSt σ p 4))), (0, .ref (g.1 95)), (1, .int (nI p)), (2, .int (nI fr)), (3, .int (nI z)), (4, .int (nI x)), (5, .int sp)]) hC dX6_beginFlex_11 (by decide) rfl ?_
  have L13 : ∀ (zf : Nat) (d : Nat) (hd : d ≤ z - fr), z - fr - d < zf → zJ C g N 12 0 0 I P J 13 [(7, .int (nI (fr + d))), (6, .int (zgap (nI (z - fr)) (sSt σ p 4) + zsum (fun j => fxStart (mB σ nat p fr) (mLo σ p x fr) (mHi σ p x fr) j + mM σ p fr j) d)), (0, .ref (g.1 95)), (1, .int (nI p)), (2, .int (nI fr)), (3, .int (nI z)), (4, .int (nI x)), (5, .int sp)] [] := by
    intro zf
    induction zf with
    | zero =>
      intro d hd hn2
      exact absurd hn2 (Nat.not_lt_zero _)
    | succ zf ih =>
      intro d hd hn2
      refine z_iload (pc := 13) hC 0 dX6_beginFlex_13 rfl ?_
      refine z_iload_n (pc := 15) hC 5 dX6_beginFlex_15 rfl rfl ?_
      refine z_icmp_ge (pc := 16) (tgt := 54) hC dX6_beginFlex_16 (by decide) (fun h16 => ?_) (fun h16 => ?_)
      · skip
        have g16 := Int32.not_lt.mpr h16
        have hge := zc_ge h16 (by have := kn_le hm.1 p; omega) (by have := kn_le hm.1 p; omega)
        have ed : d = z - fr := by omega
        subst ed
        refine z_iload (pc := 54) hC 1 dX6_beginFlex_54 rfl ?_
        refine z_iload (pc := 56) hC 7 dX6_beginFlex_56 rfl ?_
        refine z_icmp_ge (pc := 58) (tgt := 65) hC dX6_beginFlex_58 (by decide) (fun h58 => ?_) (fun h58 => ?_)
        · skip
          have g58 := Int32.not_lt.mpr h58
          refine z_iconst (pc := 65) (v := 0) hC dX6_beginFlex_65 rfl ?_
          have hgi := zgrow (n := z - fr) (by have := kn_le hm.1 p; omega) hsp (zgap_rng hm.1 he (n := z - fr) (by have := kn_le hm.1 p; omega)) (m := mM σ p fr) (x := fxStart (mB σ nat p fr) (mLo σ p x fr) (mHi σ p x fr)) (y := (fun j => fxStart (mB σ nat p fr) (mLo σ p x fr) (mHi σ p x fr) j + mM σ p fr j)) (fun j hj => (mrng hm.1 ha hb hzk hj).2.2.2.1) (fun j hj => zlim_rng (mrng hm.1 ha hb hzk hj).2.1 (mrng hm.1 ha hb hzk hj).2.2.1) (fun j hj => rfl)
          have eg : mGr σ nat p x fr z sp = false := decide_eq_false (fun q => absurd (hgi.mpr q) (Int32.not_lt.mpr h58))
          refine z_eqI (show (0 : Int32) = zB (mGr σ nat p x fr z sp) by rw [eg]; rfl) ?_
          refine z_lvs (lv' := [(0, .ref (g.1 95)), (1, .int (nI p)), (2, .int (nI fr)), (3, .int (nI z)), (4, .int (nI x)), (5, .int sp)]) [2, 3, 4, 5, 6, 7] rfl ?_
          exact J66
        · skip
          have g58 := Int32.not_le.mp h58
          refine z_iconst (pc := 61) (v := 1) hC dX6_beginFlex_61 rfl ?_
          refine z_goto (pc := 62) (tgt := 66) hC dX6_beginFlex_62 (by decide) ?_
          have hgi := zgrow (n := z - fr) (by have := kn_le hm.1 p; omega) hsp (zgap_rng hm.1 he (n := z - fr) (by have := kn_le hm.1 p; omega)) (m := mM σ p fr) (x := fxStart (mB σ nat p fr) (mLo σ p x fr) (mHi σ p x fr)) (y := (fun j => fxStart (mB σ nat p fr) (mLo σ p x fr) (mHi σ p x fr) j + mM σ p fr j)) (fun j hj => (mrng hm.1 ha hb hzk hj).2.2.2.1) (fun j hj => zlim_rng (mrng hm.1 ha hb hzk hj).2.1 (mrng hm.1 ha hb hzk hj).2.2.1) (fun j hj => rfl)
          have eg : mGr σ nat p x fr z sp = true := decide_eq_true (hgi.mp g58)
          refine z_eqI (show (1 : Int32) = zB (mGr σ nat p x fr z sp) by rw [eg]; rfl) ?_
          refine z_lvs (lv' := [(0, .ref (g.1 95)), (1, .int (nI p)), (2, .int (nI fr)), (3, .int (nI z)), (4, .int (nI x)), (5, .int sp)]) [2, 3, 4, 5, 6, 7] rfl ?_
          exact J66
      · skip
        have g16 := Int32.not_le.mp h16
        have hdz : fr + d < z := zc_lt h16 (by have := kn_le hm.1 p; omega) (by have := kn_le hm.1 p; omega)
        have hkn : fr + d < kn σ p := by omega
        have hk40 := (sKids_lt hm.1 (kd_mem hkn)).2.1
        have hkm := kn_le hm.1 p
        have hrg := mrng hm.1 ha hb hzk (fr := fr) (j := d) (by omega)
        refine z_iload (pc := 19) hC 1 dX6_beginFlex_19 rfl ?_
        refine z_aload_n (pc := 21) hC 2 dX6_beginFlex_21 rfl rfl z_isr_r ?_
        refine z_aload_n (pc := 22) hC 2 dX6_beginFlex_22 rfl rfl z_isr_r ?_
        refine z_gF (pc := 23) hC 6 4 (t := 99) rfl (z_lt hC (by decide)) rfl inX6 (by decide) rfl zm_4_77 rfl dX6_beginFlex_23 ?_
        refine z_iload (pc := 26) hC 0 dX6_beginFlex_26 rfl ?_
        refine z_iaN (pc := 28) hC (fr + d) (x := nI (kd σ p (fr + d))) rfl (z_lt hC (by decide)) rfl (by omega) (by decide) (hk.2 _ hkn) dX6_beginFlex_28 ?_
        refine z_aload_n (pc := 29) hC 2 dX6_beginFlex_29 rfl rfl z_isr_r ?_
        refine z_aload_n (pc := 30) hC 2 dX6_beginFlex_30 rfl rfl z_isr_r ?_
        refine z_gF (pc := 31) hC 6 4 (t := 99) rfl (z_lt hC (by decide)) rfl inX6 (by decide) rfl zm_4_77 rfl dX6_beginFlex_31 ?_
        refine z_iload (pc := 34) hC 0 dX6_beginFlex_34 rfl ?_
        refine z_iaN (pc := 36) hC (fr + d) (x := nI (kd σ p (fr + d))) rfl (z_lt hC (by decide)) rfl (by omega) (by decide) (hk.2 _ hkn) dX6_beginFlex_36 ?_
        refine z_iload (pc := 37) hC 6 dX6_beginFlex_37 rfl ?_
        refine z_cV (pc := 39) (st := [.int (nI (kd σ p (fr + d))), .ref (g.1 95), .int (zgap (nI (z - fr)) (sSt σ p 4) + zsum (fun j => fxStart (mB σ nat p fr) (mLo σ p x fr) (mHi σ p x fr) j + mM σ p fr j) d)]) hC [.int (nI (kd σ p (fr + d))), .int (nI x)] (kX6_startOf C.2.1 g N I P J hm (kd σ p (fr + d)) x (sKids_lt hm.1 (kd_mem hkn)).2.2.1 ha nat (hn _ (kd_mem hkn))) rfl (z_lt hC (by decide)) rfl zkX6_startOf zm_5_27 ⟨rfl, rfl⟩ rfl rfl hRm ⟨Nat.le_of_ble_eq_true rfl, Nat.le_of_ble_eq_true rfl⟩ (Nat.le_of_ble_eq_true rfl) ⟨Nat.zero_le _, Nat.zero_le _⟩ dX6_beginFlex_39 ?_
        refine z_cV (pc := 42) (st := [.int (zgap (nI (z - fr)) (sSt σ p 4) + zsum (fun j => fxStart (mB σ nat p fr) (mLo σ p x fr) (mHi σ p x fr) j + mM σ p fr j) d)]) hC [.int (nI (kd σ p (fr + d))), .int (zlim (sB σ nat (kd σ p (fr + d))) (sSt σ (kd σ p (fr + d)) (12 + x)) (sSt σ (kd σ p (fr + d)) (14 + x)))] (kX6_outer C.2.1 g N I P J hm (kd σ p (fr + d)) (sKids_lt hm.1 (kd_mem hkn)).2.2.1 (zlim (sB σ nat (kd σ p (fr + d))) (sSt σ (kd σ p (fr + d)) (12 + x)) (sSt σ (kd σ p (fr + d)) (14 + x)))) rfl (z_lt hC (by decide)) rfl zkX6_outer zm_4_220 ⟨rfl, rfl⟩ rfl rfl hRm ⟨Nat.le_of_ble_eq_true rfl, Nat.le_of_ble_eq_true rfl⟩ (Nat.le_of_ble_eq_true rfl) ⟨Nat.zero_le _, Nat.zero_le _⟩ dX6_beginFlex_42 ?_
        refine z_eqI (show (zlim (sB σ nat (kd σ p (fr + d))) (sSt σ (kd σ p (fr + d)) (12 + x)) (sSt σ (kd σ p (fr + d)) (14 + x))) + 2 * sSt σ (kd σ p (fr + d)) 6 = fxStart (mB σ nat p fr) (mLo σ p x fr) (mHi σ p x fr) d + mM σ p fr d from rfl) ?_
        refine z_iadd (pc := 45) hC dX6_beginFlex_45 ?_
        refine z_eqI (show (zgap (nI (z - fr)) (sSt σ p 4) + zsum (fun j => fxStart (mB σ nat p fr) (mLo σ p x fr) (mHi σ p x fr) j + mM σ p fr j) d) + (fxStart (mB σ nat p fr) (mLo σ p x fr) (mHi σ p x fr) d + mM σ p fr d) = zgap (nI (z - fr)) (sSt σ p 4) + zsum (fun j => fxStart (mB σ nat p fr) (mLo σ p x fr) (mHi σ p x fr) j + mM σ p fr j) (d + 1) from Int32.add_assoc _ _ _) ?_
        refine z_istore (pc := 46) (lv' := [(6, .int (zgap (nI (z - fr)) (sSt σ p 4) + zsum (fun j => fxStart (mB σ nat p fr) (mLo σ p x fr) (mHi σ p x fr) j + mM σ p fr j) (d + 1))), (7, .int (nI (fr + d))), (0, .ref (g.1 95)), (1, .int (nI p)), (2, .int (nI fr)), (3, .int (nI z)), (4, .int (nI x)), (5, .int sp)]) hC dX6_beginFlex_46 (by decide) rfl ?_
        refine z_iinc (pc := 48) (v := nI (fr + (d + 1))) (lv' := [(7, .int (nI (fr + (d + 1)))), (6, .int (zgap (nI (z - fr)) (sSt σ p 4) + zsum (fun j => fxStart (mB σ nat p fr) (mLo σ p x fr) (mHi σ p x fr) j + mM σ p fr j) (d + 1))), (0, .ref (g.1 95)), (1, .int (nI p)), (2, .int (nI fr)), (3, .int (nI z)), (4, .int (nI x)), (5, .int sp)]) hC 1 dX6_beginFlex_48 rfl (nI_1 (fr + d)) (by decide) rfl ?_
        refine z_goto (pc := 51) (tgt := 13) hC dX6_beginFlex_51 (by decide) ?_
        exact ih (d + 1) (by omega) (by omega)
  have KK := L13 41 0 (Nat.zero_le _) (by have := kn_le hm.1 p; omega)
  rw [show zgap (nI (z - fr)) (sSt σ p 4) + zsum (fun j => fxStart (mB σ nat p fr) (mLo σ p x fr) (mHi σ p x fr) j + mM σ p fr j) 0 = zgap (nI (z - fr)) (sSt σ p 4) from Int32.add_zero _] at KK
  exact KK
end ZM13
