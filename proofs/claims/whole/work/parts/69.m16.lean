section ZM16
theorem zlc_ge {x y : Int64} (h : ¬ lg_cmp x y < 0) : ¬ x < y := by
  intro q
  apply h
  unfold lg_cmp
  have q' := (zl_lt _ _).mp q
  rw [if_neg (fun z => by have z' := (zl_lt _ _).mp z; omega), if_neg (fun z => by rw [z] at q'; omega)]
  decide
theorem zlc_neg {x y : Int64} (h : lg_cmp x y < 0) : x < y := by
  unfold lg_cmp at h
  split at h
  · exact absurd h (by decide)
  · split at h
    · exact absurd h (by decide)
    · rename_i h1 h2
      have h3 : ¬ y < x := h1
      rw [zl_lt] at h3 ⊢
      rw [zl_eq] at h2
      omega
theorem zl_neg {x : Int32} (h : -10000000000 ≤ x.toInt ∧ x.toInt ≤ 2147483647 ∧ -2147483648 < x.toInt) : -x.toInt64 = (-x).toInt64 := by
  have e : (-x).toInt = -x.toInt := by
    rw [Int32.toInt_neg]
    apply Int.bmod_eq_of_le <;> omega
  rw [zl_eq, zl_toInt, e, Int64.toInt_neg, zl_toInt]
  apply Int.bmod_eq_of_le <;> omega
/-- the rest of a round stays small -/
theorem zrest_rng {n : Nat} (hn : n ≤ 40) {sp gp : Int32} (hs : 0 ≤ sp.toInt ∧ sp.toInt ≤ 10000) (hg : 0 ≤ gp.toInt ∧ gp.toInt ≤ 100000) {m x : Nat → Int32} (hm : ∀ j, j < n → 0 ≤ (m j).toInt ∧ (m j).toInt ≤ 100) (hx : ∀ j, j < n → 0 ≤ (x j).toInt ∧ (x j).toInt ≤ 10000) : -10000000 ≤ (zfsub (sp - zsum m n - gp) x n).toInt ∧ (zfsub (sp - zsum m n - gp) x n).toInt ≤ 10000000 := by
  have a := zsum_int (f := m) (n := n) (by omega) (fun j hj => by have := hm j hj; omega)
  have e1 : (sp - zsum m n).toInt = sp.toInt - (zsum m n).toInt := by
    rw [Int32.toInt_sub]
    apply Int.bmod_eq_of_le <;> omega
  have e2 : (sp - zsum m n - gp).toInt = sp.toInt - (zsum m n).toInt - gp.toInt := by
    rw [Int32.toInt_sub, e1]
    apply Int.bmod_eq_of_le <;> omega
  have b := zfsub_int (r := sp - zsum m n - gp) (by rw [e2]; omega) (f := x) (n := n) (by omega) (fun j hj => by have := hx j hj; omega)
  rw [b.1, e2]
  omega
/-- the first d proposals are made -/
def zpp (fr : Nat) (f : Nat → Int32) (st : Nat → Bool) (d : Nat) (I Ir : Nat → Nat → Int32) : Prop := (∀ q j, q ≠ 108 → Ir q j = I q j) ∧ ∀ j, j < d → st j = false → Ir 108 (fr + j) = f j
theorem zpp_0 {fr : Nat} {f : Nat → Int32} {st : Nat → Bool} {I : Nat → Nat → Int32} : zpp fr f st 0 I I := ⟨fun _ _ _ => rfl, fun j hj => absurd hj (Nat.not_lt_zero _)⟩
theorem zpp_k {fr : Nat} {f : Nat → Int32} {st : Nat → Bool} {d : Nat} {I Ir : Nat → Nat → Int32} (h : zpp fr f st d I Ir) (hs : st d = true) : zpp fr f st (d + 1) I Ir := ⟨h.1, fun j hj q => h.2 j (by
  by_cases e : j = d
  · rw [e, hs] at q; cases q
  · omega) q⟩
theorem zpp_s {fr : Nat} {f : Nat → Int32} {st : Nat → Bool} {d : Nat} {I Ir : Nat → Nat → Int32} (h : zpp fr f st d I Ir) {v : Int32} (hv : v = f d) : zpp fr f st (d + 1) I (z_u Ir 108 (fr + d) v) := by
  refine ⟨fun q j hq => by rw [z_u_a _ _ hq]; exact h.1 q j hq, fun j hj q => ?_⟩
  by_cases e : j = d
  · rw [e, z_u_s, hv]
  · rw [z_u_b _ _ (by omega)]
    exact h.2 j (by omega) q
theorem zopen_k {fac : Nat → Int32} {st : Nat → Bool} {d : Nat} (h : st d = true) : fxOpen fac st (d + 1) = fxOpen fac st d := by
  show fxOpen fac st d + (if st d = true then 0 else (fac d).toInt64) = _
  rw [h]
  exact Int64.add_zero _
theorem zopen_s {fac : Nat → Int32} {st : Nat → Bool} {d : Nat} (h : st d = false) : fxOpen fac st d + (fac d).toInt64 = fxOpen fac st (d + 1) := by
  show _ = fxOpen fac st d + (if st d = true then 0 else (fac d).toInt64)
  rw [h]
  rfl
theorem zamt (x : Int32) : x.toInt64 < 0 ↔ x < 0 := by
  rw [zl_lt, zl_toInt, zi_lt]
  exact Iff.rfl
set_option maxHeartbeats 4000000 in
set_option maxRecDepth 100000 in
theorem kX6_propose (lx : Launch) (g : zG) (N : Nat) (I : Nat → Nat → Int32) (P : Nat → Nat → Option Nat) (J : Nat → Nat → Int64) {σ : zS} (hm : zMd σ I) (p : Nat) (he : sEx σ p = true) (hk : zKq σ p I) (fr z x : Nat) (hfz : fr ≤ z) (hzk : z ≤ kn σ p) (ha : x < 2) (nat : Nat → Int32) (hn : ∀ k, k ∈ sKids σ p → I 101 (2 * k + x) = nat k) (hb : zbd σ p nat) (sp : Int32) (hsp : 0 ≤ sp.toInt ∧ sp.toInt ≤ 10000) (gr : Bool) (fac : Nat → Int32) (s : (Nat → Int32) × (Nat → Bool)) (hI6 : ∀ j, j < z - fr → I 106 (fr + j) = zB (s.2 j)) (hI2 : ∀ j, j < z - fr → I 102 (2 * kd σ p (fr + j) + x) = s.1 j) (hJ : ∀ j, j < z - fr → J 107 (fr + j) = (fac j).toInt64) (hs1 : ∀ j, j < z - fr → 0 ≤ (s.1 j).toInt ∧ (s.1 j).toInt ≤ 10000) (hfn : ∀ j, j < z - fr → 0 ≤ fac j) (hnz : ∀ j, j < z - fr → s.2 j = false → fac j ≠ 0) : z_Ct lx yX6_propose (zT yX6_propose cX6_propose 21 (Option.none : Option FieldType)) ({ frames := 2, cells := 0, slots := 0, locals := 44 } : Room) g N I P J [.ref (g.1 95), .int (nI p), .int (nI fr), .int (nI z), .int (nI x), .int sp, .int (zB gr)] (fun r I' P' J' => r = none ∧ P' = P ∧ J' = J ∧ zpp fr (fxP gr (fxAmt gr (fxRest (mRoom σ p fr z sp) (mB σ nat p fr) s.1 s.2 (z - fr))).toInt64 (fxOpen fac s.2 (z - fr)) (mB σ nat p fr) fac s.2) s.2 (z - fr) I I') 0 0 := by
  refine z_of (by decide) (Nat.le_of_ble_eq_true rfl) (lv0 := [(0, .ref (g.1 95)), (1, .int (nI p)), (2, .int (nI fr)), (3, .int (nI z)), (4, .int (nI x)), (5, .int sp), (6, .int (zB gr))]) rfl ?_
  intro C hlx hC hE hRm
  have hC : zX C cX6_propose 21 RX6 (zT yX6_propose cX6_propose 21 (Option.none : Option FieldType)) g N := hC
  refine z_iload (pc := 0) hC 5 dX6_propose_0 rfl ?_
  refine z_aload_n (pc := 2) hC 0 dX6_propose_2 rfl rfl z_isr_r ?_
  refine z_iload_n (pc := 3) hC 1 dX6_propose_3 rfl rfl ?_
  refine z_iload_n (pc := 4) hC 3 dX6_propose_4 rfl rfl ?_
  refine z_iload_n (pc := 5) hC 2 dX6_propose_5 rfl rfl ?_
  refine z_isub (pc := 6) hC dX6_propose_6 ?_
  refine z_eqI (show (nI z) - (nI fr) = nI (z - fr) from nI_sub hfz) ?_
  refine z_cV (pc := 7) (st := [.int sp]) hC [.int (nI p), .int (nI (z - fr))] (kX6_gapsOf C.2.1 g N I P J hm p he (nI (z - fr))) rfl (z_lt hC (by decide)) rfl zkX6_gapsOf zm_4_224 ⟨rfl, rfl⟩ rfl rfl hRm ⟨Nat.le_of_ble_eq_true rfl, Nat.le_of_ble_eq_true rfl⟩ (Nat.le_of_ble_eq_true rfl) ⟨Nat.zero_le _, Nat.zero_le _⟩ dX6_propose_7 ?_
  refine z_isub (pc := 10) hC dX6_propose_10 ?_
  refine z_i2l (pc := 11) hC dX6_propose_11 ?_
  refine z_lstore (pc := 12) (lv' := [(7, .long ((sp - (zgap (nI (z - fr)) (sSt σ p 4))).toInt64)), (0, .ref (g.1 95)), (1, .int (nI p)), (2, .int (nI fr)), (3, .int (nI z)), (4, .int (nI x)), (5, .int sp), (6, .int (zB gr))]) hC dX6_propose_12 (by decide) rfl ?_
  refine z_lconst (pc := 14) (v := 0) hC dX6_propose_14 rfl ?_
  refine z_lstore (pc := 15) (lv' := [(9, .long 0), (7, .long ((sp - (zgap (nI (z - fr)) (sSt σ p 4))).toInt64)), (0, .ref (g.1 95)), (1, .int (nI p)), (2, .int (nI fr)), (3, .int (nI z)), (4, .int (nI x)), (5, .int sp), (6, .int (zB gr))]) hC dX6_propose_15 (by decide) rfl ?_
  refine z_iload_n (pc := 17) hC 4 dX6_propose_17 rfl rfl ?_
  refine z_istore (pc := 18) (lv' := [(11, .int (nI fr)), (9, .long 0), (7, .long ((sp - (zgap (nI (z - fr)) (sSt σ p 4))).toInt64)), (0, .ref (g.1 95)), (1, .int (nI p)), (2, .int (nI fr)), (3, .int (nI z)), (4, .int (nI x)), (5, .int sp), (6, .int (zB gr))]) hC dX6_propose_18 (by decide) rfl ?_
  have L20 : ∀ (zf : Nat) (d : Nat) (hd : d ≤ z - fr), z - fr - d < zf → zJ C g N 21 0 0 I P J 20 [(11, .int (nI (fr + d))), (9, .long (fxOpen fac s.2 d)), (7, .long (zlsub (sp - zgap (nI (z - fr)) (sSt σ p 4)).toInt64 (fun j => mM σ p fr j + (if s.2 j = true then s.1 j else mB σ nat p fr j)) d)), (0, .ref (g.1 95)), (1, .int (nI p)), (2, .int (nI fr)), (3, .int (nI z)), (4, .int (nI x)), (5, .int sp), (6, .int (zB gr))] [] := by
    intro zf
    induction zf with
    | zero =>
      intro d hd hn2
      exact absurd hn2 (Nat.not_lt_zero _)
    | succ zf ih =>
      intro d hd hn2
      refine z_iload (pc := 20) hC 0 dX6_propose_20 rfl ?_
      refine z_iload_n (pc := 22) hC 6 dX6_propose_22 rfl rfl ?_
      refine z_icmp_ge (pc := 23) (tgt := 117) hC dX6_propose_23 (by decide) (fun h23 => ?_) (fun h23 => ?_)
      · skip
        have g23 := Int32.not_lt.mpr h23
        have hge := zc_ge h23 (by have := kn_le hm.1 p; omega) (by have := kn_le hm.1 p; omega)
        have ed : d = z - fr := by omega
        subst ed
        have hkm := kn_le hm.1 p
        have hgr := zgap_rng hm.1 he (n := z - fr) (by omega)
        have hX : ∀ j, j < z - fr → 0 ≤ ((fun j => if s.2 j = true then s.1 j else mB σ nat p fr j) j).toInt ∧ ((fun j => if s.2 j = true then s.1 j else mB σ nat p fr j) j).toInt ≤ 10000 := fun j hj => by
          show 0 ≤ (if s.2 j = true then s.1 j else mB σ nat p fr j).toInt ∧ _
          dsimp only
          split
          · exact hs1 j hj
          · exact (mrng hm.1 ha hb hzk hj).1
        have hR : zlsub (sp - zgap (nI (z - fr)) (sSt σ p 4)).toInt64 (fun j => mM σ p fr j + (if s.2 j = true then s.1 j else mB σ nat p fr j)) (z - fr) = (fxRest (mRoom σ p fr z sp) (mB σ nat p fr) s.1 s.2 (z - fr)).toInt64 := zrest (by omega) hsp hgr (fun j hj => (mrng hm.1 ha hb hzk hj).2.2.2.1) hX (fun j hj => rfl)
        have hRr : -10000000 ≤ (fxRest (mRoom σ p fr z sp) (mB σ nat p fr) s.1 s.2 (z - fr)).toInt ∧ (fxRest (mRoom σ p fr z sp) (mB σ nat p fr) s.1 s.2 (z - fr)).toInt ≤ 10000000 := zrest_rng (by omega) hsp hgr (fun j hj => (mrng hm.1 ha hb hzk hj).2.2.2.1) hX
        have J145 : zJ C g N 21 0 0 I P J 145 [(9, .long (fxOpen fac s.2 (z - fr))), (0, .ref (g.1 95)), (1, .int (nI p)), (2, .int (nI fr)), (3, .int (nI z)), (4, .int (nI x)), (5, .int sp), (6, .int (zB gr))] [.long ((fxAmt gr (fxRest (mRoom σ p fr z sp) (mB σ nat p fr) s.1 s.2 (z - fr))).toInt64)] := by
          refine z_lstore (pc := 145) (lv' := [(11, .long ((fxAmt gr (fxRest (mRoom σ p fr z sp) (mB σ nat p fr) s.1 s.2 (z - fr))).toInt64)), (9, .long (fxOpen fac s.2 (z - fr))), (0, .ref (g.1 95)), (1, .int (nI p)), (2, .int (nI fr)), (3, .int (nI z)), (4, .int (nI x)), (5, .int sp), (6, .int (zB gr))]) hC dX6_propose_145 (by decide) rfl ?_
          refine z_lconst (pc := 147) (v := 0) hC dX6_propose_147 rfl ?_
          refine z_lstore (pc := 148) (lv' := [(13, .long 0), (11, .long ((fxAmt gr (fxRest (mRoom σ p fr z sp) (mB σ nat p fr) s.1 s.2 (z - fr))).toInt64)), (9, .long (fxOpen fac s.2 (z - fr))), (0, .ref (g.1 95)), (1, .int (nI p)), (2, .int (nI fr)), (3, .int (nI z)), (4, .int (nI x)), (5, .int sp), (6, .int (zB gr))]) hC dX6_propose_148 (by decide) rfl ?_
          refine z_lconst (pc := 150) (v := 0) hC dX6_propose_150 rfl ?_
          refine z_lstore (pc := 151) (lv' := [(15, .long 0), (13, .long 0), (11, .long ((fxAmt gr (fxRest (mRoom σ p fr z sp) (mB σ nat p fr) s.1 s.2 (z - fr))).toInt64)), (9, .long (fxOpen fac s.2 (z - fr))), (0, .ref (g.1 95)), (1, .int (nI p)), (2, .int (nI fr)), (3, .int (nI z)), (4, .int (nI x)), (5, .int sp), (6, .int (zB gr))]) hC dX6_propose_151 (by decide) rfl ?_
          refine z_iload_n (pc := 153) hC 6 dX6_propose_153 rfl rfl ?_
          refine z_istore (pc := 154) (lv' := [(17, .int (nI fr)), (15, .long 0), (13, .long 0), (11, .long ((fxAmt gr (fxRest (mRoom σ p fr z sp) (mB σ nat p fr) s.1 s.2 (z - fr))).toInt64)), (9, .long (fxOpen fac s.2 (z - fr))), (0, .ref (g.1 95)), (1, .int (nI p)), (2, .int (nI fr)), (3, .int (nI z)), (4, .int (nI x)), (5, .int sp), (6, .int (zB gr))]) hC dX6_propose_154 (by decide) rfl ?_
          have L156 : ∀ (zf : Nat) (d : Nat) (Ir : Nat → Nat → Int32) (hd : d ≤ z - fr) (hz : zpp fr (fxP gr (fxAmt gr (fxRest (mRoom σ p fr z sp) (mB σ nat p fr) s.1 s.2 (z - fr))).toInt64 (fxOpen fac s.2 (z - fr)) (mB σ nat p fr) fac s.2) s.2 d I Ir), z - fr - d < zf → zJ C g N 21 0 0 Ir P J 156 [(17, .int (nI (fr + d))), (15, .long ((fxAmt gr (fxRest (mRoom σ p fr z sp) (mB σ nat p fr) s.1 s.2 (z - fr))).toInt64 * fxOpen fac s.2 d / fxOpen fac s.2 (z - fr))), (13, .long (fxOpen fac s.2 d)), (11, .long ((fxAmt gr (fxRest (mRoom σ p fr z sp) (mB σ nat p fr) s.1 s.2 (z - fr))).toInt64)), (9, .long (fxOpen fac s.2 (z - fr))), (0, .ref (g.1 95)), (1, .int (nI p)), (2, .int (nI fr)), (3, .int (nI z)), (4, .int (nI x)), (5, .int sp), (6, .int (zB gr))] [] := by
            intro zf
            induction zf with
            | zero =>
              intro d Ir hd hz hn2
              exact absurd hn2 (Nat.not_lt_zero _)
            | succ zf ih =>
              intro d Ir hd hz hn2
              have hmr := hm.eq (fun k => hz.1 96 k (by decide))
              refine z_iload (pc := 156) hC 0 dX6_propose_156 rfl ?_
              refine z_iload_n (pc := 158) hC 8 dX6_propose_158 rfl rfl ?_
              refine z_icmp_ge (pc := 159) (tgt := 246) hC dX6_propose_159 (by decide) (fun h159 => ?_) (fun h159 => ?_)
              · skip
                have g159 := Int32.not_lt.mpr h159
                have hge2 := zc_ge h159 (by omega) (by omega)
                have ed : d = z - fr := by omega
                exact z_vret (pc := 246) hC hE dX6_propose_246 (by rw [ed] at hz; exact ⟨rfl, rfl, rfl, hz⟩)
              · skip
                have g159 := Int32.not_le.mp h159
                have hdz : fr + d < z := zc_lt h159 (by have := kn_le hm.1 p; omega) (by have := kn_le hm.1 p; omega)
                have hkn : fr + d < kn σ p := by omega
                have hk40 := (sKids_lt hm.1 (kd_mem hkn)).2.1
                have hkm := kn_le hm.1 p
                refine z_aload_n (pc := 162) hC 5 dX6_propose_162 rfl rfl z_isr_r ?_
                refine z_gF (pc := 163) hC 6 12 (t := 106) rfl (z_lt hC (by decide)) rfl inX6 (by decide) rfl zm_4_85 rfl dX6_propose_163 ?_
                refine z_iload (pc := 166) hC 0 dX6_propose_166 rfl ?_
                refine z_zaN (pc := 168) hC (fr + d) (x := zB (s.2 d)) rfl (z_lt hC (by decide)) rfl (by omega) (by decide) ((hz.1 106 _ (by decide)).trans (hI6 d (by omega))) dX6_propose_168 ?_
                refine z_if_ne (pc := 169) (tgt := 240) hC dX6_propose_169 (by decide) (fun h169 => ?_) (fun h169 => ?_)
                · skip
                  have g169 := zB_t h169
                  refine z_iinc (pc := 240) (v := nI (fr + (d + 1))) (lv' := [(17, .int (nI (fr + (d + 1)))), (15, .long ((fxAmt gr (fxRest (mRoom σ p fr z sp) (mB σ nat p fr) s.1 s.2 (z - fr))).toInt64 * fxOpen fac s.2 d / fxOpen fac s.2 (z - fr))), (13, .long (fxOpen fac s.2 d)), (11, .long ((fxAmt gr (fxRest (mRoom σ p fr z sp) (mB σ nat p fr) s.1 s.2 (z - fr))).toInt64)), (9, .long (fxOpen fac s.2 (z - fr))), (0, .ref (g.1 95)), (1, .int (nI p)), (2, .int (nI fr)), (3, .int (nI z)), (4, .int (nI x)), (5, .int sp), (6, .int (zB gr))]) hC 0 dX6_propose_240 rfl (nI_1 (fr + d)) (by decide) rfl ?_
                  refine z_goto (pc := 243) (tgt := 156) hC dX6_propose_243 (by decide) ?_
                  have K := ih (d + 1) Ir (by omega) (zpp_k hz g169) (by omega)
                  rw [zopen_k g169] at K
                  exact K
                · skip
                  have g169 := zB_f h169
                  have hall : fxOpen fac s.2 (z - fr) ≠ 0 := fun q => absurd ((fxOpen_pos (by omega) hfn hnz).mpr ⟨d, by omega, g169⟩) (by rw [q]; decide)
                  refine z_lload (pc := 172) hC 2 dX6_propose_172 rfl ?_
                  refine z_aload_n (pc := 174) hC 5 dX6_propose_174 rfl rfl z_isr_r ?_
                  refine z_gF (pc := 175) hC 6 13 (t := 107) rfl (z_lt hC (by decide)) rfl inX6 (by decide) rfl zm_4_86 rfl dX6_propose_175 ?_
                  refine z_iload (pc := 178) hC 0 dX6_propose_178 rfl ?_
                  refine z_laN (pc := 180) hC (fr + d) (x := (fac d).toInt64) rfl (z_lt hC (by decide)) rfl (by omega) (by decide) (hJ d (by omega)) dX6_propose_180 ?_
                  refine z_ladd (pc := 181) hC dX6_propose_181 ?_
                  refine z_eqL (show (fxOpen fac s.2 d) + ((fac d).toInt64) = fxOpen fac s.2 (d + 1) from zopen_s g169) ?_
                  refine z_lstore (pc := 182) (lv' := [(13, .long (fxOpen fac s.2 (d + 1))), (17, .int (nI (fr + d))), (15, .long ((fxAmt gr (fxRest (mRoom σ p fr z sp) (mB σ nat p fr) s.1 s.2 (z - fr))).toInt64 * fxOpen fac s.2 d / fxOpen fac s.2 (z - fr))), (11, .long ((fxAmt gr (fxRest (mRoom σ p fr z sp) (mB σ nat p fr) s.1 s.2 (z - fr))).toInt64)), (9, .long (fxOpen fac s.2 (z - fr))), (0, .ref (g.1 95)), (1, .int (nI p)), (2, .int (nI fr)), (3, .int (nI z)), (4, .int (nI x)), (5, .int sp), (6, .int (zB gr))]) hC dX6_propose_182 (by decide) rfl ?_
                  refine z_lload (pc := 184) hC 3 dX6_propose_184 rfl ?_
                  refine z_lload (pc := 186) hC 0 dX6_propose_186 rfl ?_
                  refine z_lmul (pc := 188) hC dX6_propose_188 ?_
                  refine z_lload (pc := 189) hC 4 dX6_propose_189 rfl ?_
                  refine z_ldiv (pc := 191) hC dX6_propose_191 hall ?_
                  refine z_lstore (pc := 192) (lv' := [(18, .long ((((fxAmt gr (fxRest (mRoom σ p fr z sp) (mB σ nat p fr) s.1 s.2 (z - fr))).toInt64) * (fxOpen fac s.2 (d + 1))) / (fxOpen fac s.2 (z - fr)))), (13, .long (fxOpen fac s.2 (d + 1))), (17, .int (nI (fr + d))), (15, .long ((fxAmt gr (fxRest (mRoom σ p fr z sp) (mB σ nat p fr) s.1 s.2 (z - fr))).toInt64 * fxOpen fac s.2 d / fxOpen fac s.2 (z - fr))), (11, .long ((fxAmt gr (fxRest (mRoom σ p fr z sp) (mB σ nat p fr) s.1 s.2 (z - fr))).toInt64)), (9, .long (fxOpen fac s.2 (z - fr))), (0, .ref (g.1 95)), (1, .int (nI p)), (2, .int (nI fr)), (3, .int (nI z)), (4, .int (nI x)), (5, .int sp), (6, .int (zB gr))]) hC dX6_propose_192 (by decide) rfl ?_
                  refine z_lload (pc := 194) hC 0 dX6_propose_194 rfl ?_
                  refine z_lload (pc := 196) hC 3 dX6_propose_196 rfl ?_
                  refine z_lsub (pc := 198) hC dX6_propose_198 ?_
                  refine z_l2i (pc := 199) hC dX6_propose_199 ?_
                  refine z_eqI (show (((((fxAmt gr (fxRest (mRoom σ p fr z sp) (mB σ nat p fr) s.1 s.2 (z - fr))).toInt64) * (fxOpen fac s.2 (d + 1))) / (fxOpen fac s.2 (z - fr))) - ((fxAmt gr (fxRest (mRoom σ p fr z sp) (mB σ nat p fr) s.1 s.2 (z - fr))).toInt64 * fxOpen fac s.2 d / fxOpen fac s.2 (z - fr))).toInt32 = fxPart (fxAmt gr (fxRest (mRoom σ p fr z sp) (mB σ nat p fr) s.1 s.2 (z - fr))).toInt64 (fxOpen fac s.2 (z - fr)) fac s.2 d from rfl) ?_
                  refine z_istore (pc := 200) (lv' := [(20, .int (fxPart (fxAmt gr (fxRest (mRoom σ p fr z sp) (mB σ nat p fr) s.1 s.2 (z - fr))).toInt64 (fxOpen fac s.2 (z - fr)) fac s.2 d)), (18, .long ((((fxAmt gr (fxRest (mRoom σ p fr z sp) (mB σ nat p fr) s.1 s.2 (z - fr))).toInt64) * (fxOpen fac s.2 (d + 1))) / (fxOpen fac s.2 (z - fr)))), (13, .long (fxOpen fac s.2 (d + 1))), (17, .int (nI (fr + d))), (15, .long ((fxAmt gr (fxRest (mRoom σ p fr z sp) (mB σ nat p fr) s.1 s.2 (z - fr))).toInt64 * fxOpen fac s.2 d / fxOpen fac s.2 (z - fr))), (11, .long ((fxAmt gr (fxRest (mRoom σ p fr z sp) (mB σ nat p fr) s.1 s.2 (z - fr))).toInt64)), (9, .long (fxOpen fac s.2 (z - fr))), (0, .ref (g.1 95)), (1, .int (nI p)), (2, .int (nI fr)), (3, .int (nI z)), (4, .int (nI x)), (5, .int sp), (6, .int (zB gr))]) hC dX6_propose_200 (by decide) rfl ?_
                  refine z_lload (pc := 202) hC 1 dX6_propose_202 rfl ?_
                  refine z_lstore (pc := 204) (lv' := [(15, .long ((((fxAmt gr (fxRest (mRoom σ p fr z sp) (mB σ nat p fr) s.1 s.2 (z - fr))).toInt64) * (fxOpen fac s.2 (d + 1))) / (fxOpen fac s.2 (z - fr)))), (20, .int (fxPart (fxAmt gr (fxRest (mRoom σ p fr z sp) (mB σ nat p fr) s.1 s.2 (z - fr))).toInt64 (fxOpen fac s.2 (z - fr)) fac s.2 d)), (18, .long ((((fxAmt gr (fxRest (mRoom σ p fr z sp) (mB σ nat p fr) s.1 s.2 (z - fr))).toInt64) * (fxOpen fac s.2 (d + 1))) / (fxOpen fac s.2 (z - fr)))), (13, .long (fxOpen fac s.2 (d + 1))), (17, .int (nI (fr + d))), (11, .long ((fxAmt gr (fxRest (mRoom σ p fr z sp) (mB σ nat p fr) s.1 s.2 (z - fr))).toInt64)), (9, .long (fxOpen fac s.2 (z - fr))), (0, .ref (g.1 95)), (1, .int (nI p)), (2, .int (nI fr)), (3, .int (nI z)), (4, .int (nI x)), (5, .int sp), (6, .int (zB gr))]) hC dX6_propose_204 (by decide) rfl ?_
                  refine z_aload_n (pc := 206) hC 7 dX6_propose_206 rfl rfl z_isr_r ?_
                  refine z_gF (pc := 207) hC 6 14 (t := 108) rfl (z_lt hC (by decide)) rfl inX6 (by decide) rfl zm_4_87 rfl dX6_propose_207 ?_
                  refine z_iload (pc := 210) hC 4 dX6_propose_210 rfl ?_
                  refine z_aload_n (pc := 212) hC 7 dX6_propose_212 rfl rfl z_isr_r ?_
                  refine z_aload_n (pc := 213) hC 7 dX6_propose_213 rfl rfl z_isr_r ?_
                  refine z_gF (pc := 214) hC 6 4 (t := 99) rfl (z_lt hC (by decide)) rfl inX6 (by decide) rfl zm_4_77 rfl dX6_propose_214 ?_
                  refine z_iload (pc := 217) hC 4 dX6_propose_217 rfl ?_
                  refine z_iaN (pc := 219) hC (fr + d) (x := nI (kd σ p (fr + d))) rfl (z_lt hC (by decide)) rfl (by omega) (by decide) ((hz.1 99 _ (by decide)).trans (hk.2 _ hkn)) dX6_propose_219 ?_
                  refine z_iload (pc := 220) hC 11 dX6_propose_220 rfl ?_
                  refine z_cV (pc := 222) (st := [.int (nI (fr + d)), .ref (g.1 108)]) hC [.int (nI (kd σ p (fr + d))), .int (nI x)] (kX6_baseOf C.2.1 g N Ir P J hmr (kd σ p (fr + d)) x (sKids_lt hm.1 (kd_mem hkn)).2.2.1 ha nat ((hz.1 101 _ (by decide)).trans (hn _ (kd_mem hkn)))) rfl (z_lt hC (by decide)) rfl zkX6_baseOf zm_5_31 ⟨rfl, rfl⟩ rfl rfl hRm ⟨Nat.le_of_ble_eq_true rfl, Nat.le_of_ble_eq_true rfl⟩ (Nat.le_of_ble_eq_true rfl) ⟨Nat.zero_le _, Nat.zero_le _⟩ dX6_propose_222 ?_
                  refine z_iload (pc := 225) hC 13 dX6_propose_225 rfl ?_
                  refine z_if_eq (pc := 227) (tgt := 235) hC dX6_propose_227 (by decide) (fun h227 => ?_) (fun h227 => ?_)
                  · skip
                    have g227 := zB_f h227
                    refine z_iload (pc := 235) hC 1 dX6_propose_235 rfl ?_
                    refine z_ineg (pc := 237) hC dX6_propose_237 ?_
                    refine z_iadd (pc := 238) hC dX6_propose_238 ?_
                    refine z_isN (pc := 239) hC (fr + d) rfl (z_lt hC (by decide)) rfl (by omega) (by decide) dX6_propose_239 ?_
                    refine z_iinc (pc := 240) (v := nI (fr + (d + 1))) (lv' := [(17, .int (nI (fr + (d + 1)))), (15, .long ((((fxAmt gr (fxRest (mRoom σ p fr z sp) (mB σ nat p fr) s.1 s.2 (z - fr))).toInt64) * (fxOpen fac s.2 (d + 1))) / (fxOpen fac s.2 (z - fr)))), (20, .int (fxPart (fxAmt gr (fxRest (mRoom σ p fr z sp) (mB σ nat p fr) s.1 s.2 (z - fr))).toInt64 (fxOpen fac s.2 (z - fr)) fac s.2 d)), (18, .long ((((fxAmt gr (fxRest (mRoom σ p fr z sp) (mB σ nat p fr) s.1 s.2 (z - fr))).toInt64) * (fxOpen fac s.2 (d + 1))) / (fxOpen fac s.2 (z - fr)))), (13, .long (fxOpen fac s.2 (d + 1))), (11, .long ((fxAmt gr (fxRest (mRoom σ p fr z sp) (mB σ nat p fr) s.1 s.2 (z - fr))).toInt64)), (9, .long (fxOpen fac s.2 (z - fr))), (0, .ref (g.1 95)), (1, .int (nI p)), (2, .int (nI fr)), (3, .int (nI z)), (4, .int (nI x)), (5, .int sp), (6, .int (zB gr))]) hC 4 dX6_propose_240 rfl (nI_1 (fr + d)) (by decide) rfl ?_
                    refine z_goto (pc := 243) (tgt := 156) hC dX6_propose_243 (by decide) ?_
                    refine z_lvs (lv' := [(17, .int (nI (fr + (d + 1)))), (15, .long ((((fxAmt gr (fxRest (mRoom σ p fr z sp) (mB σ nat p fr) s.1 s.2 (z - fr))).toInt64) * (fxOpen fac s.2 (d + 1))) / (fxOpen fac s.2 (z - fr)))), (13, .long (fxOpen fac s.2 (d + 1))), (11, .long ((fxAmt gr (fxRest (mRoom σ p fr z sp) (mB σ nat p fr) s.1 s.2 (z - fr))).toInt64)), (9, .long (fxOpen fac s.2 (z - fr))), (0, .ref (g.1 95)), (1, .int (nI p)), (2, .int (nI fr)), (3, .int (nI z)), (4, .int (nI x)), (5, .int sp), (6, .int (zB gr))]) [0, 1, 4, 5, 6, 7, 8, 9, 10, 11, 12, 13] rfl ?_
                    exact ih (d + 1) _ (by omega) (zpp_s hz (by unfold fxP; rw [g227]; rfl)) (by omega)
                  · skip
                    have g227 := zB_t h227
                    refine z_iload (pc := 230) hC 1 dX6_propose_230 rfl ?_
                    refine z_goto (pc := 232) (tgt := 238) hC dX6_propose_232 (by decide) ?_
                    refine z_iadd (pc := 238) hC dX6_propose_238 ?_
                    refine z_isN (pc := 239) hC (fr + d) rfl (z_lt hC (by decide)) rfl (by omega) (by decide) dX6_propose_239 ?_
                    refine z_iinc (pc := 240) (v := nI (fr + (d + 1))) (lv' := [(17, .int (nI (fr + (d + 1)))), (15, .long ((((fxAmt gr (fxRest (mRoom σ p fr z sp) (mB σ nat p fr) s.1 s.2 (z - fr))).toInt64) * (fxOpen fac s.2 (d + 1))) / (fxOpen fac s.2 (z - fr)))), (20, .int (fxPart (fxAmt gr (fxRest (mRoom σ p fr z sp) (mB σ nat p fr) s.1 s.2 (z - fr))).toInt64 (fxOpen fac s.2 (z - fr)) fac s.2 d)), (18, .long ((((fxAmt gr (fxRest (mRoom σ p fr z sp) (mB σ nat p fr) s.1 s.2 (z - fr))).toInt64) * (fxOpen fac s.2 (d + 1))) / (fxOpen fac s.2 (z - fr)))), (13, .long (fxOpen fac s.2 (d + 1))), (11, .long ((fxAmt gr (fxRest (mRoom σ p fr z sp) (mB σ nat p fr) s.1 s.2 (z - fr))).toInt64)), (9, .long (fxOpen fac s.2 (z - fr))), (0, .ref (g.1 95)), (1, .int (nI p)), (2, .int (nI fr)), (3, .int (nI z)), (4, .int (nI x)), (5, .int sp), (6, .int (zB gr))]) hC 4 dX6_propose_240 rfl (nI_1 (fr + d)) (by decide) rfl ?_
                    refine z_goto (pc := 243) (tgt := 156) hC dX6_propose_243 (by decide) ?_
                    refine z_lvs (lv' := [(17, .int (nI (fr + (d + 1)))), (15, .long ((((fxAmt gr (fxRest (mRoom σ p fr z sp) (mB σ nat p fr) s.1 s.2 (z - fr))).toInt64) * (fxOpen fac s.2 (d + 1))) / (fxOpen fac s.2 (z - fr)))), (13, .long (fxOpen fac s.2 (d + 1))), (11, .long ((fxAmt gr (fxRest (mRoom σ p fr z sp) (mB σ nat p fr) s.1 s.2 (z - fr))).toInt64)), (9, .long (fxOpen fac s.2 (z - fr))), (0, .ref (g.1 95)), (1, .int (nI p)), (2, .int (nI fr)), (3, .int (nI z)), (4, .int (nI x)), (5, .int sp), (6, .int (zB gr))]) [0, 1, 4, 5, 6, 7, 8, 9, 10, 11, 12, 13] rfl ?_
                    exact ih (d + 1) _ (by omega) (zpp_s hz (by unfold fxP; rw [g227]; rfl)) (by omega)
          have K := L156 41 0 I (Nat.zero_le _) zpp_0 (by omega)
          rw [show (fxAmt gr (fxRest (mRoom σ p fr z sp) (mB σ nat p fr) s.1 s.2 (z - fr))).toInt64 * fxOpen fac s.2 0 / fxOpen fac s.2 (z - fr) = 0 from zl_mul0 _ _] at K
          exact K
        refine z_iload (pc := 117) hC 9 dX6_propose_117 rfl ?_
        refine z_if_eq (pc := 119) (tgt := 127) hC dX6_propose_119 (by decide) (fun h119 => ?_) (fun h119 => ?_)
        · skip
          have g119 := zB_f h119
          refine z_lload (pc := 127) hC 2 dX6_propose_127 rfl ?_
          refine z_lneg (pc := 129) hC dX6_propose_129 ?_
          refine z_eqL (show -(zlsub (sp - zgap (nI (z - fr)) (sSt σ p 4)).toInt64 (fun j => mM σ p fr j + (if s.2 j = true then s.1 j else mB σ nat p fr j)) (z - fr)) = (if gr = true then fxRest (mRoom σ p fr z sp) (mB σ nat p fr) s.1 s.2 (z - fr) else -fxRest (mRoom σ p fr z sp) (mB σ nat p fr) s.1 s.2 (z - fr)).toInt64 from (congrArg (fun y => -y) hR).trans ((zl_neg ⟨by omega, by omega, by omega⟩).trans (by rw [g119]; rfl))) ?_
          refine z_lstore (pc := 130) (lv' := [(11, .long ((if gr = true then fxRest (mRoom σ p fr z sp) (mB σ nat p fr) s.1 s.2 (z - fr) else -fxRest (mRoom σ p fr z sp) (mB σ nat p fr) s.1 s.2 (z - fr)).toInt64)), (9, .long (fxOpen fac s.2 (z - fr))), (7, .long (zlsub (sp - zgap (nI (z - fr)) (sSt σ p 4)).toInt64 (fun j => mM σ p fr j + (if s.2 j = true then s.1 j else mB σ nat p fr j)) (z - fr))), (0, .ref (g.1 95)), (1, .int (nI p)), (2, .int (nI fr)), (3, .int (nI z)), (4, .int (nI x)), (5, .int sp), (6, .int (zB gr))]) hC dX6_propose_130 (by decide) rfl ?_
          refine z_lload (pc := 132) hC 0 dX6_propose_132 rfl ?_
          refine z_lconst (pc := 134) (v := 0) hC dX6_propose_134 rfl ?_
          refine z_lcmp (pc := 135) hC dX6_propose_135 ?_
          refine z_if_ge (pc := 136) (tgt := 143) hC dX6_propose_136 (by decide) (fun h136 => ?_) (fun h136 => ?_)
          · skip
            have g136 := Int32.not_lt.mpr h136
            refine z_lload (pc := 143) hC 0 dX6_propose_143 rfl ?_
            refine z_eqL (show (if gr = true then fxRest (mRoom σ p fr z sp) (mB σ nat p fr) s.1 s.2 (z - fr) else -fxRest (mRoom σ p fr z sp) (mB σ nat p fr) s.1 s.2 (z - fr)).toInt64 = (fxAmt gr (fxRest (mRoom σ p fr z sp) (mB σ nat p fr) s.1 s.2 (z - fr))).toInt64 from by unfold fxAmt; rw [if_neg (fun q => zlc_ge g136 ((zamt _).mpr q))]) ?_
            refine z_lvs (lv' := [(9, .long (fxOpen fac s.2 (z - fr))), (0, .ref (g.1 95)), (1, .int (nI p)), (2, .int (nI fr)), (3, .int (nI z)), (4, .int (nI x)), (5, .int sp), (6, .int (zB gr))]) [1, 3, 4, 5, 6, 7, 8, 9] rfl ?_
            exact J145
          · skip
            have g136 := Int32.not_le.mp h136
            refine z_lconst (pc := 139) (v := 0) hC dX6_propose_139 rfl ?_
            refine z_goto (pc := 140) (tgt := 145) hC dX6_propose_140 (by decide) ?_
            refine z_eqL (show 0 = (fxAmt gr (fxRest (mRoom σ p fr z sp) (mB σ nat p fr) s.1 s.2 (z - fr))).toInt64 from by unfold fxAmt; rw [if_pos ((zamt _).mp (zlc_neg g136))]; rfl) ?_
            refine z_lvs (lv' := [(9, .long (fxOpen fac s.2 (z - fr))), (0, .ref (g.1 95)), (1, .int (nI p)), (2, .int (nI fr)), (3, .int (nI z)), (4, .int (nI x)), (5, .int sp), (6, .int (zB gr))]) [1, 3, 4, 5, 6, 7, 8, 9] rfl ?_
            exact J145
        · skip
          have g119 := zB_t h119
          refine z_lload (pc := 122) hC 2 dX6_propose_122 rfl ?_
          refine z_goto (pc := 124) (tgt := 130) hC dX6_propose_124 (by decide) ?_
          refine z_eqL (show zlsub (sp - zgap (nI (z - fr)) (sSt σ p 4)).toInt64 (fun j => mM σ p fr j + (if s.2 j = true then s.1 j else mB σ nat p fr j)) (z - fr) = (if gr = true then fxRest (mRoom σ p fr z sp) (mB σ nat p fr) s.1 s.2 (z - fr) else -fxRest (mRoom σ p fr z sp) (mB σ nat p fr) s.1 s.2 (z - fr)).toInt64 from hR.trans (by rw [g119]; rfl)) ?_
          refine z_lstore (pc := 130) (lv' := [(11, .long ((if gr = true then fxRest (mRoom σ p fr z sp) (mB σ nat p fr) s.1 s.2 (z - fr) else -fxRest (mRoom σ p fr z sp) (mB σ nat p fr) s.1 s.2 (z - fr)).toInt64)), (9, .long (fxOpen fac s.2 (z - fr))), (7, .long (zlsub (sp - zgap (nI (z - fr)) (sSt σ p 4)).toInt64 (fun j => mM σ p fr j + (if s.2 j = true then s.1 j else mB σ nat p fr j)) (z - fr))), (0, .ref (g.1 95)), (1, .int (nI p)), (2, .int (nI fr)), (3, .int (nI z)), (4, .int (nI x)), (5, .int sp), (6, .int (zB gr))]) hC dX6_propose_130 (by decide) rfl ?_
          refine z_lload (pc := 132) hC 0 dX6_propose_132 rfl ?_
          refine z_lconst (pc := 134) (v := 0) hC dX6_propose_134 rfl ?_
          refine z_lcmp (pc := 135) hC dX6_propose_135 ?_
          refine z_if_ge (pc := 136) (tgt := 143) hC dX6_propose_136 (by decide) (fun h136 => ?_) (fun h136 => ?_)
          · skip
            have g136 := Int32.not_lt.mpr h136
            refine z_lload (pc := 143) hC 0 dX6_propose_143 rfl ?_
            refine z_eqL (show (if gr = true then fxRest (mRoom σ p fr z sp) (mB σ nat p fr) s.1 s.2 (z - fr) else -fxRest (mRoom σ p fr z sp) (mB σ nat p fr) s.1 s.2 (z - fr)).toInt64 = (fxAmt gr (fxRest (mRoom σ p fr z sp) (mB σ nat p fr) s.1 s.2 (z - fr))).toInt64 from by unfold fxAmt; rw [if_neg (fun q => zlc_ge g136 ((zamt _).mpr q))]) ?_
            refine z_lvs (lv' := [(9, .long (fxOpen fac s.2 (z - fr))), (0, .ref (g.1 95)), (1, .int (nI p)), (2, .int (nI fr)), (3, .int (nI z)), (4, .int (nI x)), (5, .int sp), (6, .int (zB gr))]) [1, 3, 4, 5, 6, 7, 8, 9] rfl ?_
            exact J145
          · skip
            have g136 := Int32.not_le.mp h136
            refine z_lconst (pc := 139) (v := 0) hC dX6_propose_139 rfl ?_
            refine z_goto (pc := 140) (tgt := 145) hC dX6_propose_140 (by decide) ?_
            refine z_eqL (show 0 = (fxAmt gr (fxRest (mRoom σ p fr z sp) (mB σ nat p fr) s.1 s.2 (z - fr))).toInt64 from by unfold fxAmt; rw [if_pos ((zamt _).mp (zlc_neg g136))]; rfl) ?_
            refine z_lvs (lv' := [(9, .long (fxOpen fac s.2 (z - fr))), (0, .ref (g.1 95)), (1, .int (nI p)), (2, .int (nI fr)), (3, .int (nI z)), (4, .int (nI x)), (5, .int sp), (6, .int (zB gr))]) [1, 3, 4, 5, 6, 7, 8, 9] rfl ?_
            exact J145
      · skip
        have g23 := Int32.not_le.mp h23
        have hdz : fr + d < z := zc_lt h23 (by have := kn_le hm.1 p; omega) (by have := kn_le hm.1 p; omega)
        have hkn : fr + d < kn σ p := by omega
        have hk40 := (sKids_lt hm.1 (kd_mem hkn)).2.1
        have hkm := kn_le hm.1 p
        refine z_aload_n (pc := 26) hC 3 dX6_propose_26 rfl rfl z_isr_r ?_
        refine z_gF (pc := 27) hC 6 4 (t := 99) rfl (z_lt hC (by decide)) rfl inX6 (by decide) rfl zm_4_77 rfl dX6_propose_27 ?_
        refine z_iload (pc := 30) hC 0 dX6_propose_30 rfl ?_
        refine z_iaN (pc := 32) hC (fr + d) (x := nI (kd σ p (fr + d))) rfl (z_lt hC (by decide)) rfl (by omega) (by decide) (hk.2 _ hkn) dX6_propose_32 ?_
        refine z_istore (pc := 33) (lv' := [(12, .int (nI (kd σ p (fr + d)))), (11, .int (nI (fr + d))), (9, .long (fxOpen fac s.2 d)), (7, .long (zlsub (sp - zgap (nI (z - fr)) (sSt σ p 4)).toInt64 (fun j => mM σ p fr j + (if s.2 j = true then s.1 j else mB σ nat p fr j)) d)), (0, .ref (g.1 95)), (1, .int (nI p)), (2, .int (nI fr)), (3, .int (nI z)), (4, .int (nI x)), (5, .int sp), (6, .int (zB gr))]) hC dX6_propose_33 (by decide) rfl ?_
        refine z_lload (pc := 35) hC 3 dX6_propose_35 rfl ?_
        refine z_iconst (pc := 37) (v := 2) hC dX6_propose_37 rfl ?_
        refine z_aload_n (pc := 38) hC 4 dX6_propose_38 rfl rfl z_isr_r ?_
        refine z_iload (pc := 39) hC 0 dX6_propose_39 rfl ?_
        refine z_bipush (pc := 41) (v := 6) hC dX6_propose_41 rfl ?_
        refine z_cV (pc := 43) (st := [.int 2, .long (zlsub (sp - zgap (nI (z - fr)) (sSt σ p 4)).toInt64 (fun j => mM σ p fr j + (if s.2 j = true then s.1 j else mB σ nat p fr j)) d)]) hC [.int (nI (kd σ p (fr + d))), .int 6] (kX6_of C.2.1 g N I P J hm (kd σ p (fr + d)) 6 (sKids_lt hm.1 (kd_mem hkn)).2.2.1 (by decide) 6 rfl) rfl (z_lt hC (by decide)) rfl zkX6_of zm_4_162 ⟨rfl, rfl⟩ rfl rfl hRm ⟨Nat.le_of_ble_eq_true rfl, Nat.le_of_ble_eq_true rfl⟩ (Nat.le_of_ble_eq_true rfl) ⟨Nat.zero_le _, Nat.zero_le _⟩ dX6_propose_43 ?_
        refine z_imul (pc := 46) hC dX6_propose_46 ?_
        refine z_aload_n (pc := 47) hC 4 dX6_propose_47 rfl rfl z_isr_r ?_
        refine z_gF (pc := 48) hC 6 12 (t := 106) rfl (z_lt hC (by decide)) rfl inX6 (by decide) rfl zm_4_85 rfl dX6_propose_48 ?_
        refine z_iload (pc := 51) hC 1 dX6_propose_51 rfl ?_
        refine z_zaN (pc := 53) hC (fr + d) (x := zB (s.2 d)) rfl (z_lt hC (by decide)) rfl (by omega) (by decide) (hI6 d (by omega)) dX6_propose_53 ?_
        refine z_if_eq (pc := 54) (tgt := 72) hC dX6_propose_54 (by decide) (fun h54 => ?_) (fun h54 => ?_)
        · skip
          have g54 := zB_f h54
          refine z_aload_n (pc := 72) hC 4 dX6_propose_72 rfl rfl z_isr_r ?_
          refine z_iload (pc := 73) hC 0 dX6_propose_73 rfl ?_
          refine z_iload (pc := 75) hC 8 dX6_propose_75 rfl ?_
          refine z_cV (pc := 77) (st := [.int (2 * (sSt σ (kd σ p (fr + d)) 6)), .long (zlsub (sp - zgap (nI (z - fr)) (sSt σ p 4)).toInt64 (fun j => mM σ p fr j + (if s.2 j = true then s.1 j else mB σ nat p fr j)) d)]) hC [.int (nI (kd σ p (fr + d))), .int (nI x)] (kX6_baseOf C.2.1 g N I P J hm (kd σ p (fr + d)) x (sKids_lt hm.1 (kd_mem hkn)).2.2.1 ha nat (hn _ (kd_mem hkn))) rfl (z_lt hC (by decide)) rfl zkX6_baseOf zm_5_31 ⟨rfl, rfl⟩ rfl rfl hRm ⟨Nat.le_of_ble_eq_true rfl, Nat.le_of_ble_eq_true rfl⟩ (Nat.le_of_ble_eq_true rfl) ⟨Nat.zero_le _, Nat.zero_le _⟩ dX6_propose_77 ?_
          refine z_iadd (pc := 80) hC dX6_propose_80 ?_
          refine z_i2l (pc := 81) hC dX6_propose_81 ?_
          refine z_lsub (pc := 82) hC dX6_propose_82 ?_
          refine z_eqL (show (zlsub (sp - zgap (nI (z - fr)) (sSt σ p 4)).toInt64 (fun j => mM σ p fr j + (if s.2 j = true then s.1 j else mB σ nat p fr j)) d) - (((2 * (sSt σ (kd σ p (fr + d)) 6)) + (sB σ nat (kd σ p (fr + d)))).toInt64) = zlsub (sp - zgap (nI (z - fr)) (sSt σ p 4)).toInt64 (fun j => mM σ p fr j + (if s.2 j = true then s.1 j else mB σ nat p fr j)) (d + 1) from by show _ = zlsub (sp - zgap (nI (z - fr)) (sSt σ p 4)).toInt64 (fun j => mM σ p fr j + (if s.2 j = true then s.1 j else mB σ nat p fr j)) d - (mM σ p fr d + (if s.2 d = true then s.1 d else mB σ nat p fr d)).toInt64; rw [g54]; rfl) ?_
          refine z_lstore (pc := 83) (lv' := [(7, .long (zlsub (sp - zgap (nI (z - fr)) (sSt σ p 4)).toInt64 (fun j => mM σ p fr j + (if s.2 j = true then s.1 j else mB σ nat p fr j)) (d + 1))), (12, .int (nI (kd σ p (fr + d)))), (11, .int (nI (fr + d))), (9, .long (fxOpen fac s.2 d)), (0, .ref (g.1 95)), (1, .int (nI p)), (2, .int (nI fr)), (3, .int (nI z)), (4, .int (nI x)), (5, .int sp), (6, .int (zB gr))]) hC dX6_propose_83 (by decide) rfl ?_
          refine z_lload (pc := 85) hC 3 dX6_propose_85 rfl ?_
          refine z_aload_n (pc := 87) hC 4 dX6_propose_87 rfl rfl z_isr_r ?_
          refine z_gF (pc := 88) hC 6 12 (t := 106) rfl (z_lt hC (by decide)) rfl inX6 (by decide) rfl zm_4_85 rfl dX6_propose_88 ?_
          refine z_iload (pc := 91) hC 2 dX6_propose_91 rfl ?_
          refine z_zaN (pc := 93) hC (fr + d) (x := zB (s.2 d)) rfl (z_lt hC (by decide)) rfl (by omega) (by decide) (hI6 d (by omega)) dX6_propose_93 ?_
          refine z_if_eq (pc := 94) (tgt := 101) hC dX6_propose_94 (by decide) (fun h94 => ?_) (fun h94 => ?_)
          · skip
            have g94 := zB_f h94
            refine z_aload_n (pc := 101) hC 4 dX6_propose_101 rfl rfl z_isr_r ?_
            refine z_gF (pc := 102) hC 6 13 (t := 107) rfl (z_lt hC (by decide)) rfl inX6 (by decide) rfl zm_4_86 rfl dX6_propose_102 ?_
            refine z_iload (pc := 105) hC 2 dX6_propose_105 rfl ?_
            refine z_laN (pc := 107) hC (fr + d) (x := (fac d).toInt64) rfl (z_lt hC (by decide)) rfl (by omega) (by decide) (hJ d (by omega)) dX6_propose_107 ?_
            refine z_ladd (pc := 108) hC dX6_propose_108 ?_
            refine z_eqL (show (fxOpen fac s.2 d) + ((fac d).toInt64) = fxOpen fac s.2 (d + 1) from by show _ = fxOpen fac s.2 d + (if s.2 d = true then 0 else (fac d).toInt64); rw [g94]; rfl) ?_
            refine z_lstore (pc := 109) (lv' := [(9, .long (fxOpen fac s.2 (d + 1))), (7, .long (zlsub (sp - zgap (nI (z - fr)) (sSt σ p 4)).toInt64 (fun j => mM σ p fr j + (if s.2 j = true then s.1 j else mB σ nat p fr j)) (d + 1))), (12, .int (nI (kd σ p (fr + d)))), (11, .int (nI (fr + d))), (0, .ref (g.1 95)), (1, .int (nI p)), (2, .int (nI fr)), (3, .int (nI z)), (4, .int (nI x)), (5, .int sp), (6, .int (zB gr))]) hC dX6_propose_109 (by decide) rfl ?_
            refine z_iinc (pc := 111) (v := nI (fr + (d + 1))) (lv' := [(11, .int (nI (fr + (d + 1)))), (9, .long (fxOpen fac s.2 (d + 1))), (7, .long (zlsub (sp - zgap (nI (z - fr)) (sSt σ p 4)).toInt64 (fun j => mM σ p fr j + (if s.2 j = true then s.1 j else mB σ nat p fr j)) (d + 1))), (12, .int (nI (kd σ p (fr + d)))), (0, .ref (g.1 95)), (1, .int (nI p)), (2, .int (nI fr)), (3, .int (nI z)), (4, .int (nI x)), (5, .int sp), (6, .int (zB gr))]) hC 3 dX6_propose_111 rfl (nI_1 (fr + d)) (by decide) rfl ?_
            refine z_goto (pc := 114) (tgt := 20) hC dX6_propose_114 (by decide) ?_
            refine z_lvs (lv' := [(11, .int (nI (fr + (d + 1)))), (9, .long (fxOpen fac s.2 (d + 1))), (7, .long (zlsub (sp - zgap (nI (z - fr)) (sSt σ p 4)).toInt64 (fun j => mM σ p fr j + (if s.2 j = true then s.1 j else mB σ nat p fr j)) (d + 1))), (0, .ref (g.1 95)), (1, .int (nI p)), (2, .int (nI fr)), (3, .int (nI z)), (4, .int (nI x)), (5, .int sp), (6, .int (zB gr))]) [0, 1, 2, 4, 5, 6, 7, 8, 9, 10] rfl ?_
            exact ih (d + 1) (by omega) (by omega)
          · skip
            have g94 := zB_t h94
            rw [g54] at g94
            cases g94
        · skip
          have g54 := zB_t h54
          refine z_aload_n (pc := 57) hC 4 dX6_propose_57 rfl rfl z_isr_r ?_
          refine z_gF (pc := 58) hC 6 8 (t := 102) rfl (z_lt hC (by decide)) rfl inX6 (by decide) rfl zm_4_81 rfl dX6_propose_58 ?_
          refine z_iconst (pc := 61) (v := 2) hC dX6_propose_61 rfl ?_
          refine z_iload (pc := 62) hC 0 dX6_propose_62 rfl ?_
          refine z_imul (pc := 64) hC dX6_propose_64 ?_
          refine z_iload (pc := 65) hC 8 dX6_propose_65 rfl ?_
          refine z_iadd (pc := 67) hC dX6_propose_67 ?_
          refine z_iaN (pc := 68) hC (2 * (kd σ p (fr + d)) + x) (x := s.1 d) rfl (z_lt hC (by decide)) (zix2 (kd σ p (fr + d)) x) (by omega) (by decide) (hI2 d (by omega)) dX6_propose_68 ?_
          refine z_goto (pc := 69) (tgt := 80) hC dX6_propose_69 (by decide) ?_
          refine z_iadd (pc := 80) hC dX6_propose_80 ?_
          refine z_i2l (pc := 81) hC dX6_propose_81 ?_
          refine z_lsub (pc := 82) hC dX6_propose_82 ?_
          refine z_eqL (show (zlsub (sp - zgap (nI (z - fr)) (sSt σ p 4)).toInt64 (fun j => mM σ p fr j + (if s.2 j = true then s.1 j else mB σ nat p fr j)) d) - (((2 * (sSt σ (kd σ p (fr + d)) 6)) + (s.1 d)).toInt64) = zlsub (sp - zgap (nI (z - fr)) (sSt σ p 4)).toInt64 (fun j => mM σ p fr j + (if s.2 j = true then s.1 j else mB σ nat p fr j)) (d + 1) from by show _ = zlsub (sp - zgap (nI (z - fr)) (sSt σ p 4)).toInt64 (fun j => mM σ p fr j + (if s.2 j = true then s.1 j else mB σ nat p fr j)) d - (mM σ p fr d + (if s.2 d = true then s.1 d else mB σ nat p fr d)).toInt64; rw [g54]; rfl) ?_
          refine z_lstore (pc := 83) (lv' := [(7, .long (zlsub (sp - zgap (nI (z - fr)) (sSt σ p 4)).toInt64 (fun j => mM σ p fr j + (if s.2 j = true then s.1 j else mB σ nat p fr j)) (d + 1))), (12, .int (nI (kd σ p (fr + d)))), (11, .int (nI (fr + d))), (9, .long (fxOpen fac s.2 d)), (0, .ref (g.1 95)), (1, .int (nI p)), (2, .int (nI fr)), (3, .int (nI z)), (4, .int (nI x)), (5, .int sp), (6, .int (zB gr))]) hC dX6_propose_83 (by decide) rfl ?_
          refine z_lload (pc := 85) hC 3 dX6_propose_85 rfl ?_
          refine z_aload_n (pc := 87) hC 4 dX6_propose_87 rfl rfl z_isr_r ?_
          refine z_gF (pc := 88) hC 6 12 (t := 106) rfl (z_lt hC (by decide)) rfl inX6 (by decide) rfl zm_4_85 rfl dX6_propose_88 ?_
          refine z_iload (pc := 91) hC 2 dX6_propose_91 rfl ?_
          refine z_zaN (pc := 93) hC (fr + d) (x := zB (s.2 d)) rfl (z_lt hC (by decide)) rfl (by omega) (by decide) (hI6 d (by omega)) dX6_propose_93 ?_
          refine z_if_eq (pc := 94) (tgt := 101) hC dX6_propose_94 (by decide) (fun h94 => ?_) (fun h94 => ?_)
          · skip
            have g94 := zB_f h94
            rw [g54] at g94
            cases g94
          · skip
            have g94 := zB_t h94
            refine z_lconst (pc := 97) (v := 0) hC dX6_propose_97 rfl ?_
            refine z_goto (pc := 98) (tgt := 108) hC dX6_propose_98 (by decide) ?_
            refine z_ladd (pc := 108) hC dX6_propose_108 ?_
            refine z_eqL (show (fxOpen fac s.2 d) + 0 = fxOpen fac s.2 (d + 1) from by show _ = fxOpen fac s.2 d + (if s.2 d = true then 0 else (fac d).toInt64); rw [g94]; rfl) ?_
            refine z_lstore (pc := 109) (lv' := [(9, .long (fxOpen fac s.2 (d + 1))), (7, .long (zlsub (sp - zgap (nI (z - fr)) (sSt σ p 4)).toInt64 (fun j => mM σ p fr j + (if s.2 j = true then s.1 j else mB σ nat p fr j)) (d + 1))), (12, .int (nI (kd σ p (fr + d)))), (11, .int (nI (fr + d))), (0, .ref (g.1 95)), (1, .int (nI p)), (2, .int (nI fr)), (3, .int (nI z)), (4, .int (nI x)), (5, .int sp), (6, .int (zB gr))]) hC dX6_propose_109 (by decide) rfl ?_
            refine z_iinc (pc := 111) (v := nI (fr + (d + 1))) (lv' := [(11, .int (nI (fr + (d + 1)))), (9, .long (fxOpen fac s.2 (d + 1))), (7, .long (zlsub (sp - zgap (nI (z - fr)) (sSt σ p 4)).toInt64 (fun j => mM σ p fr j + (if s.2 j = true then s.1 j else mB σ nat p fr j)) (d + 1))), (12, .int (nI (kd σ p (fr + d)))), (0, .ref (g.1 95)), (1, .int (nI p)), (2, .int (nI fr)), (3, .int (nI z)), (4, .int (nI x)), (5, .int sp), (6, .int (zB gr))]) hC 3 dX6_propose_111 rfl (nI_1 (fr + d)) (by decide) rfl ?_
            refine z_goto (pc := 114) (tgt := 20) hC dX6_propose_114 (by decide) ?_
            refine z_lvs (lv' := [(11, .int (nI (fr + (d + 1)))), (9, .long (fxOpen fac s.2 (d + 1))), (7, .long (zlsub (sp - zgap (nI (z - fr)) (sSt σ p 4)).toInt64 (fun j => mM σ p fr j + (if s.2 j = true then s.1 j else mB σ nat p fr j)) (d + 1))), (0, .ref (g.1 95)), (1, .int (nI p)), (2, .int (nI fr)), (3, .int (nI z)), (4, .int (nI x)), (5, .int sp), (6, .int (zB gr))]) [0, 1, 2, 4, 5, 6, 7, 8, 9, 10] rfl ?_
            exact ih (d + 1) (by omega) (by omega)
  exact L20 41 0 (Nat.zero_le _) (by have := kn_le hm.1 p; omega)
end ZM16
