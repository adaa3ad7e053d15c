section ZSH
theorem fxRel_end {n : Nat} {gr : Bool} {room : Int32} {bs lo hi fac : Nat → Int32} {s : (Nat → Int32) × (Nat → Bool)} {I Ir : Nat → Nat → Int32} {k : Nat} (hn : n ≤ 40) (h : fxRel n I Ir fac (fxIt n gr room bs lo hi fac s k)) (ha : ∀ j, j < n → (fxIt n gr room bs lo hi fac s k).2 j = true) : ∀ j, j < n → Ir 92 j = (fxIt n gr room bs lo hi fac s n).1 j := fun j hj => by
  rw [fxIt_end hn ha hj]
  exact (h.2 j hj).2.2 (ha j hj)
theorem fxRel_open0 {n : Nat} {gr : Bool} {room : Int32} {bs lo hi fac : Nat → Int32} {s : (Nat → Int32) × (Nat → Bool)} {I Ir : Nat → Nat → Int32} {k : Nat} (hn : n ≤ 40) (h : fxRel n I Ir fac (fxIt n gr room bs lo hi fac s k)) (hf : ∀ j, j < n → 0 ≤ fac j) (hz : ∀ j, j < n → s.2 j = false → fac j ≠ 0) (ho : ¬ 0 < fxOpen (Ir 91) (zst Ir) n) : ∀ j, j < n → (fxIt n gr room bs lo hi fac s k).2 j = true := fun j hj => by
  rw [fxRel_open h (Nat.le_refl n), fxOpen_pos hn hf (fun i hi => fxIt_nz hz k i hi)] at ho
  cases e : (fxIt n gr room bs lo hi fac s k).2 j with
  | true => rfl
  | false => exact absurd ⟨j, hj, e⟩ ho
theorem fxSt0_nz {gr : Bool} {bs lo hi fac : Nat → Int32} {j : Nat} (h : fxSt0 gr bs lo hi fac j = false) : fac j ≠ 0 := by
  unfold fxSt0 at h
  intro q
  rw [decide_eq_true q] at h
  cases h
theorem fxRel_0 (n : Nat) (gr : Bool) (I : Nat → Nat → Int32) (fac : Nat → Int32) : fxRel n I (zfacM (zrow (fxStart (I 86) (I 87) (I 88)) I 92 n) fac (fxSt0 gr (I 86) (I 87) (I 88) fac) n) fac (fxStart (I 86) (I 87) (I 88), fxSt0 gr (I 86) (I 87) (I 88) fac) := by
  refine ⟨fun a j h1 h2 h3 h4 => ?_, fun j hj => ⟨?_, ?_, fun _ => ?_⟩⟩
  · rw [zfacM_o _ _ _ h1 h4, zrow_o _ _ h2]
  · unfold zfacM
    rw [if_pos ⟨hj, rfl⟩]
  · unfold zst zfacM
    rw [if_neg (fun q => absurd q.2 (by decide)), if_pos ⟨hj, rfl⟩]
    show (!decide (zB (fxSt0 gr (I 86) (I 87) (I 88) fac j) = 0)) = fxSt0 gr (I 86) (I 87) (I 88) fac j
    cases fxSt0 gr (I 86) (I 87) (I 88) fac j <;> rfl
  · rw [zfacM_o _ _ _ (by decide) (by decide), zrow_i _ _ hj]
/-- what share leaves -/
def zshareQ (n : Nat) (room : Int32) (I : Nat → Nat → Int32) (P : Nat → Nat → Option Nat) (J : Nat → Nat → Int64) : Option Value → (Nat → Nat → Int32) → (Nat → Nat → Option Nat) → (Nat → Nat → Int64) → Prop := fun v I' P' J' => v = none ∧ P' = P ∧ J' = J ∧ (∀ a j, a ≠ 91 → a ≠ 92 → a ≠ 93 → a ≠ 94 → I' a j = I a j) ∧ ∀ j, j < n → I' 92 j = fxSz n room (I 86) (I 87) (I 88) (I 89) (I 90) j
set_option maxHeartbeats 4000000 in
set_option maxRecDepth 100000 in
theorem kX1_share (lx : Launch) (g : zG) (N : Nat) (I : Nat → Nat → Int32) (P : Nat → Nat → Option Nat) (J : Nat → Nat → Int64) (n : Nat) (hn40 : n ≤ 40) (hn : I 83 9 = nI n) (sp gp : Int32) (hp1 : ∀ j, j < n → 0 ≤ I 89 j) (hp2 : ∀ j, j < n → 0 ≤ I 90 j * I 86 j) : z_Ct lx yX1_share (zT yX1_share cX1_share 9 (Option.none : Option FieldType)) ({ frames := 2, cells := 0, slots := 0, locals := 59 } : Room) g N I P J [.ref (g.1 83), .int sp, .int gp] (zshareQ n (sp - I 83 10 - zgap (nI n) gp) I P J) 0 0 := by
  refine z_of (by decide) (Nat.le_of_ble_eq_true rfl) (lv0 := [(0, .ref (g.1 83)), (1, .int sp), (2, .int gp)]) rfl ?_
  intro C hlx hC hE hRm
  have hC : zX C cX1_share 9 RX1 (zT yX1_share cX1_share 9 (Option.none : Option FieldType)) g N := hC
  refine z_iload_n (pc := 0) hC 1 dX1_share_0 rfl rfl ?_
  refine z_aload_n (pc := 1) hC 0 dX1_share_1 rfl rfl z_isr_r ?_
  refine z_gI (pc := 2) hC 1 10 (x := I 83 10) rfl (z_lt hC (by decide)) rfl inX1 (by decide) rfl zm_1_169 rfl dX1_share_2 ?_
  refine z_isub (pc := 5) hC dX1_share_5 ?_
  refine z_aload_n (pc := 6) hC 0 dX1_share_6 rfl rfl z_isr_r ?_
  refine z_gI (pc := 7) hC 1 9 (x := nI n) rfl (z_lt hC (by decide)) rfl inX1 (by decide) rfl zm_1_168 hn dX1_share_7 ?_
  refine z_iload_n (pc := 10) hC 2 dX1_share_10 rfl rfl ?_
  refine z_cSN (pc := 11) (st := [.int (sp - (I 83 10))]) hC [.int (nI n), .int gp] (kX5_gaps C.2.1 g N I P J (nI n) gp) zkX5_gaps (hC.2.2.2.2.2.1.2.2.2.2.2.2.2.2.1) ⟨rfl, rfl⟩ rfl rfl hRm ⟨Nat.le_of_ble_eq_true rfl, Nat.le_of_ble_eq_true rfl⟩ (Nat.le_of_ble_eq_true rfl) ⟨Nat.zero_le _, Nat.zero_le _⟩ dX1_share_11 ?_
  refine z_isub (pc := 14) hC dX1_share_14 ?_
  obtain ⟨rm, e_rm⟩ : ∃ z, z = (sp - (I 83 10)) - (zgap (nI n) gp) := ⟨_, rfl⟩
  rw [← e_rm]
  refine z_istore_n (pc := 15) (lv' := [(3, .int rm), (0, .ref (g.1 83)), (1, .int sp), (2, .int gp)]) hC dX1_share_15 rfl (by decide) rfl ?_
  refine z_aload_n (pc := 16) hC 1 dX1_share_16 rfl rfl z_isr_r ?_
  refine z_cV (pc := 17) (st := []) hC [] (kX1_begin C.2.1 g N I P J n hn40 hn) rfl (z_lt hC (by decide)) rfl zkX1_begin zm_2_199 ⟨rfl, rfl⟩ rfl rfl hRm ⟨Nat.le_of_ble_eq_true rfl, Nat.le_of_ble_eq_true rfl⟩ (Nat.le_of_ble_eq_true rfl) ⟨Nat.zero_le _, Nat.zero_le _⟩ dX1_share_17 ?_
  refine z_iload_n (pc := 20) hC 0 dX1_share_20 rfl rfl ?_
  obtain ⟨gr, e_gr⟩ : ∃ z, z = fxGr n rm (I 86) (I 87) (I 88) := ⟨_, rfl⟩
  have hfac : ∀ j, j < n → 0 ≤ (fxFac gr (I 89) (I 90) (I 86)) j := fun j hj => by
    unfold fxFac
    cases gr
    · exact hp2 j hj
    · exact hp1 j hj
  have J29 : zJ C g N 9 0 0 (zrow (fxStart (I 86) (I 87) (I 88)) I 92 n) P J 29 [(3, .int rm), (0, .ref (g.1 83)), (1, .int sp), (2, .int gp)] [.int (zB gr)] := by
    refine z_istore (pc := 29) (lv' := [(4, .int (zB gr)), (3, .int rm), (0, .ref (g.1 83)), (1, .int sp), (2, .int gp)]) hC dX1_share_29 (by decide) rfl ?_
    refine z_iconst (pc := 31) (v := 0) hC dX1_share_31 rfl ?_
    refine z_istore (pc := 32) (lv' := [(5, .int 0), (4, .int (zB gr)), (3, .int rm), (0, .ref (g.1 83)), (1, .int sp), (2, .int gp)]) hC dX1_share_32 (by decide) rfl ?_
    have L34 : ∀ (zf : Nat) (i : Nat) (hi : i ≤ n), n - i < zf → zJ C g N 9 0 0 (zfacM (zrow (fxStart (I 86) (I 87) (I 88)) I 92 n) (fxFac gr (I 89) (I 90) (I 86)) (fxSt0 gr (I 86) (I 87) (I 88) (fxFac gr (I 89) (I 90) (I 86))) i) P J 34 [(5, .int (nI i)), (4, .int (zB gr)), (3, .int rm), (0, .ref (g.1 83)), (1, .int sp), (2, .int gp)] [] := by
      intro zf
      induction zf with
      | zero =>
        intro i hi hn2
        exact absurd hn2 (Nat.not_lt_zero _)
      | succ zf ih =>
        intro i hi hn2
        refine z_iload (pc := 34) hC 0 dX1_share_34 rfl ?_
        refine z_aload_n (pc := 36) hC 3 dX1_share_36 rfl rfl z_isr_r ?_
        refine z_gI (pc := 37) hC 1 9 (x := nI n) rfl (z_lt hC (by decide)) rfl inX1 (by decide) rfl zm_1_168 ((zfacM_o _ _ _ (by decide) (by decide)).trans ((zrow_o _ _ (by decide)).trans hn)) dX1_share_37 ?_
        refine z_icmp_ge (pc := 40) (tgt := 157) hC dX1_share_40 (by decide) (fun h40 => ?_) (fun h40 => ?_)
        · skip
          have g40 := Int32.not_lt.mpr h40
          have e40 : n = i := (Nat.le_antisymm hi (zc_ge h40 (by omega) (by omega))).symm
          subst e40
          refine z_aload_n (pc := 157) hC 3 dX1_share_157 rfl rfl z_isr_r ?_
          refine z_cV (pc := 158) (st := []) hC [] (kX1_openFactors C.2.1 g N (zfacM (zrow (fxStart (I 86) (I 87) (I 88)) I 92 n) (fxFac gr (I 89) (I 90) (I 86)) (fxSt0 gr (I 86) (I 87) (I 88) (fxFac gr (I 89) (I 90) (I 86))) n) P J n hn40 ((zfacM_o _ _ _ (by decide) (by decide)).trans ((zrow_o _ _ (by decide)).trans hn))) rfl (z_lt hC (by decide)) rfl zkX1_openFactors zm_2_204 ⟨rfl, rfl⟩ rfl rfl hRm ⟨Nat.le_of_ble_eq_true rfl, Nat.le_of_ble_eq_true rfl⟩ (Nat.le_of_ble_eq_true rfl) ⟨Nat.zero_le _, Nat.zero_le _⟩ dX1_share_158 ?_
          refine z_lstore (pc := 161) (lv' := [(5, .long (fxOpen ((zfacM (zrow (fxStart (I 86) (I 87) (I 88)) I 92 n) (fxFac gr (I 89) (I 90) (I 86)) (fxSt0 gr (I 86) (I 87) (I 88) (fxFac gr (I 89) (I 90) (I 86))) n) 91) (zst (zfacM (zrow (fxStart (I 86) (I 87) (I 88)) I 92 n) (fxFac gr (I 89) (I 90) (I 86)) (fxSt0 gr (I 86) (I 87) (I 88) (fxFac gr (I 89) (I 90) (I 86))) n)) n)), (4, .int (zB gr)), (3, .int rm), (0, .ref (g.1 83)), (1, .int sp), (2, .int gp)]) hC dX1_share_161 (by decide) rfl ?_
          refine z_iconst (pc := 163) (v := 0) hC dX1_share_163 rfl ?_
          refine z_istore (pc := 164) (lv' := [(7, .int 0), (5, .long (fxOpen ((zfacM (zrow (fxStart (I 86) (I 87) (I 88)) I 92 n) (fxFac gr (I 89) (I 90) (I 86)) (fxSt0 gr (I 86) (I 87) (I 88) (fxFac gr (I 89) (I 90) (I 86))) n) 91) (zst (zfacM (zrow (fxStart (I 86) (I 87) (I 88)) I 92 n) (fxFac gr (I 89) (I 90) (I 86)) (fxSt0 gr (I 86) (I 87) (I 88) (fxFac gr (I 89) (I 90) (I 86))) n)) n)), (4, .int (zB gr)), (3, .int rm), (0, .ref (g.1 83)), (1, .int sp), (2, .int gp)]) hC dX1_share_164 (by decide) rfl ?_
          have L166 : ∀ (zf : Nat) (r : Nat) (Ir : Nat → Nat → Int32) (hr : r ≤ n) (hrel : fxRel n I Ir (fxFac gr (I 89) (I 90) (I 86)) (fxIt n gr rm (I 86) (I 87) (I 88) (fxFac gr (I 89) (I 90) (I 86)) ((fxStart (I 86) (I 87) (I 88)), (fxSt0 gr (I 86) (I 87) (I 88) (fxFac gr (I 89) (I 90) (I 86)))) r)), n - r < zf → zJ C g N 9 0 0 Ir P J 166 [(7, .int (nI r)), (5, .long (fxOpen (Ir 91) (zst Ir) n)), (4, .int (zB gr)), (3, .int rm), (0, .ref (g.1 83)), (1, .int sp), (2, .int gp)] [] := by
            intro zf
            induction zf with
            | zero =>
              intro r Ir hr hrel hn2
              exact absurd hn2 (Nat.not_lt_zero _)
            | succ zf ih =>
              intro r Ir hr hrel hn2
              refine z_iload (pc := 166) hC 0 dX1_share_166 rfl ?_
              refine z_aload_n (pc := 168) hC 4 dX1_share_168 rfl rfl z_isr_r ?_
              refine z_gI (pc := 169) hC 1 9 (x := nI n) rfl (z_lt hC (by decide)) rfl inX1 (by decide) rfl zm_1_168 ((hrel.1 83 9 (by decide) (by decide) (by decide) (by decide)).trans hn) dX1_share_169 ?_
              refine z_icmp_ge (pc := 172) (tgt := 231) hC dX1_share_172 (by decide) (fun h172 => ?_) (fun h172 => ?_)
              · skip
                have g172 := Int32.not_lt.mpr h172
                have e172 : r = n := Nat.le_antisymm hr (zc_ge h172 (by omega) (by omega))
                have hall := fxIt_all (gr := gr) (room := rm) (bs := I 86) (lo := I 87) (hi := I 88) (fac := (fxFac gr (I 89) (I 90) (I 86))) (s := ((fxStart (I 86) (I 87) (I 88)), (fxSt0 gr (I 86) (I 87) (I 88) (fxFac gr (I 89) (I 90) (I 86))))) hn40 (show n ≤ r by omega)
                exact z_vret (pc := 231) hC hE dX1_share_231 ⟨rfl, rfl, rfl, hrel.1, fun j hj => by rw [fxRel_end hn40 hrel hall j hj, e_gr, e_rm]; rfl⟩
              · skip
                have g172 := Int32.not_le.mp h172
                have e172 : r < n := zc_lt h172 (by omega) (by omega)
                refine z_lload (pc := 175) hC 1 dX1_share_175 rfl ?_
                refine z_lconst (pc := 177) (v := 0) hC dX1_share_177 rfl ?_
                refine z_lcmp (pc := 178) hC dX1_share_178 ?_
                refine z_if_le (pc := 179) (tgt := 231) hC dX1_share_179 (by decide) (fun h179 => ?_) (fun h179 => ?_)
                · skip
                  have g179 := Int32.not_lt.mpr h179
                  have hall := fxRel_open0 hn40 hrel hfac (fun j _ q => fxSt0_nz q) (zlc_le h179)
                  exact z_vret (pc := 231) hC hE dX1_share_231 ⟨rfl, rfl, rfl, hrel.1, fun j hj => by rw [fxRel_end hn40 hrel hall j hj, e_gr, e_rm]; rfl⟩
                · skip
                  have g179 := Int32.not_le.mp h179
                  refine z_aload_n (pc := 182) hC 4 dX1_share_182 rfl rfl z_isr_r ?_
                  refine z_iload_n (pc := 183) hC 3 dX1_share_183 rfl rfl ?_
                  refine z_cV (pc := 184) (st := []) hC [.int rm] (kX1_restOf C.2.1 g N Ir P J n hn40 ((hrel.1 83 9 (by decide) (by decide) (by decide) (by decide)).trans hn) rm) rfl (z_lt hC (by decide)) rfl zkX1_restOf zm_2_208 ⟨rfl, rfl⟩ rfl rfl hRm ⟨Nat.le_of_ble_eq_true rfl, Nat.le_of_ble_eq_true rfl⟩ (Nat.le_of_ble_eq_true rfl) ⟨Nat.zero_le _, Nat.zero_le _⟩ dX1_share_184 ?_
                  refine z_istore (pc := 187) (lv' := [(8, .int (fxRest rm (Ir 86) (Ir 92) (zst Ir) n)), (7, .int (nI r)), (5, .long (fxOpen (Ir 91) (zst Ir) n)), (4, .int (zB gr)), (3, .int rm), (0, .ref (g.1 83)), (1, .int sp), (2, .int gp)]) hC dX1_share_187 (by decide) rfl ?_
                  refine z_aload_n (pc := 189) hC 5 dX1_share_189 rfl rfl z_isr_r ?_
                  refine z_aload_n (pc := 190) hC 5 dX1_share_190 rfl rfl z_isr_r ?_
                  refine z_iload (pc := 191) hC 3 dX1_share_191 rfl ?_
                  refine z_if_eq (pc := 193) (tgt := 201) hC dX1_share_193 (by decide) (fun h193 => ?_) (fun h193 => ?_)
                  · skip
                    have g193 := zB_f h193
                    refine z_iload (pc := 201) hC 0 dX1_share_201 rfl ?_
                    refine z_ineg (pc := 203) hC dX1_share_203 ?_
                    refine z_iconst (pc := 204) (v := 0) hC dX1_share_204 rfl ?_
                    refine z_mmax (pc := 205) hC (z_tw zm_2_212) (z_tw zm_2_134) (z_tw zm_1_12) (z_tw zm_2_135) (by rw [hRm]; exact Nat.le_of_ble_eq_true rfl) (by rw [hRm]; exact (Nat.le_of_ble_eq_true rfl)) (by rw [hRm]; exact Nat.zero_le _) (by rw [hRm]; exact Nat.zero_le _) dX1_share_205 ?_
                    rw [show (if -(fxRest rm (Ir 86) (Ir 92) (zst Ir) n) < 0 then 0 else -(fxRest rm (Ir 86) (Ir 92) (zst Ir) n)) = fxAmt gr (fxRest rm (Ir 86) (Ir 92) (zst Ir) n) from by unfold fxAmt; rw [g193]; rfl]
                    refine z_i2l (pc := 208) hC dX1_share_208 ?_
                    refine z_lload (pc := 209) hC 2 dX1_share_209 rfl ?_
                    refine z_iload (pc := 211) hC 3 dX1_share_211 rfl ?_
                    refine z_cV (pc := 213) (st := [.ref (g.1 83)]) hC [.long ((fxAmt gr (fxRest rm (Ir 86) (Ir 92) (zst Ir) n)).toInt64), .long (fxOpen (Ir 91) (zst Ir) n), .int (zB gr)] (kX1_propose C.2.1 g N Ir P J n hn40 ((hrel.1 83 9 (by decide) (by decide) (by decide) (by decide)).trans hn) (fxAmt gr (fxRest rm (Ir 86) (Ir 92) (zst Ir) n)).toInt64 (fxOpen (Ir 91) (zst Ir) n) (zlc_lt g179) gr) rfl (z_lt hC (by decide)) rfl zkX1_propose zm_2_213 ⟨rfl, rfl⟩ rfl rfl hRm ⟨Nat.le_of_ble_eq_true rfl, Nat.le_of_ble_eq_true rfl⟩ (Nat.le_of_ble_eq_true rfl) ⟨Nat.zero_le _, Nat.zero_le _⟩ dX1_share_213 ?_
                    refine z_cV (pc := 216) (st := []) hC [.long (fxSum (fxDev (Ir 87) (Ir 88) (fxP gr (fxAmt gr (fxRest rm (Ir 86) (Ir 92) (zst Ir) n)).toInt64 (fxOpen (Ir 91) (zst Ir) n) (Ir 86) (Ir 91) (zst Ir))) (zst Ir) n)] (kX1_settle C.2.1 g N (zprop Ir (fxP gr (fxAmt gr (fxRest rm (Ir 86) (Ir 92) (zst Ir) n)).toInt64 (fxOpen (Ir 91) (zst Ir) n) (Ir 86) (Ir 91) (zst Ir)) (fxDev (Ir 87) (Ir 88) (fxP gr (fxAmt gr (fxRest rm (Ir 86) (Ir 92) (zst Ir) n)).toInt64 (fxOpen (Ir 91) (zst Ir) n) (Ir 86) (Ir 91) (zst Ir))) n) P J n hn40 ((zprop_o _ _ _ (by decide) (by decide)).trans ((hrel.1 83 9 (by decide) (by decide) (by decide) (by decide)).trans hn)) (fxSum (fxDev (Ir 87) (Ir 88) (fxP gr (fxAmt gr (fxRest rm (Ir 86) (Ir 92) (zst Ir) n)).toInt64 (fxOpen (Ir 91) (zst Ir) n) (Ir 86) (Ir 91) (zst Ir))) (zst Ir) n)) rfl (z_lt hC (by decide)) rfl zkX1_settle zm_2_217 ⟨rfl, rfl⟩ rfl rfl hRm ⟨Nat.le_of_ble_eq_true rfl, Nat.le_of_ble_eq_true rfl⟩ (Nat.le_of_ble_eq_true rfl) ⟨Nat.zero_le _, Nat.zero_le _⟩ dX1_share_216 ?_
                    refine z_aload_n (pc := 219) hC 5 dX1_share_219 rfl rfl z_isr_r ?_
                    refine z_cV (pc := 220) (st := []) hC [] (kX1_openFactors C.2.1 g N (zsetl (zprop Ir (fxP gr (fxAmt gr (fxRest rm (Ir 86) (Ir 92) (zst Ir) n)).toInt64 (fxOpen (Ir 91) (zst Ir) n) (Ir 86) (Ir 91) (zst Ir)) (fxDev (Ir 87) (Ir 88) (fxP gr (fxAmt gr (fxRest rm (Ir 86) (Ir 92) (zst Ir) n)).toInt64 (fxOpen (Ir 91) (zst Ir) n) (Ir 86) (Ir 91) (zst Ir))) n) (fxSum (fxDev (Ir 87) (Ir 88) (fxP gr (fxAmt gr (fxRest rm (Ir 86) (Ir 92) (zst Ir) n)).toInt64 (fxOpen (Ir 91) (zst Ir) n) (Ir 86) (Ir 91) (zst Ir))) (zst Ir) n) n) P J n hn40 ((zsetl_o _ _ (by decide) (by decide)).trans ((zprop_o _ _ _ (by decide) (by decide)).trans ((hrel.1 83 9 (by decide) (by decide) (by decide) (by decide)).trans hn)))) rfl (z_lt hC (by decide)) rfl zkX1_openFactors zm_2_204 ⟨rfl, rfl⟩ rfl rfl hRm ⟨Nat.le_of_ble_eq_true rfl, Nat.le_of_ble_eq_true rfl⟩ (Nat.le_of_ble_eq_true rfl) ⟨Nat.zero_le _, Nat.zero_le _⟩ dX1_share_220 ?_
                    refine z_lstore (pc := 223) (lv' := [(5, .long (fxOpen ((zsetl (zprop Ir (fxP gr (fxAmt gr (fxRest rm (Ir 86) (Ir 92) (zst Ir) n)).toInt64 (fxOpen (Ir 91) (zst Ir) n) (Ir 86) (Ir 91) (zst Ir)) (fxDev (Ir 87) (Ir 88) (fxP gr (fxAmt gr (fxRest rm (Ir 86) (Ir 92) (zst Ir) n)).toInt64 (fxOpen (Ir 91) (zst Ir) n) (Ir 86) (Ir 91) (zst Ir))) n) (fxSum (fxDev (Ir 87) (Ir 88) (fxP gr (fxAmt gr (fxRest rm (Ir 86) (Ir 92) (zst Ir) n)).toInt64 (fxOpen (Ir 91) (zst Ir) n) (Ir 86) (Ir 91) (zst Ir))) (zst Ir) n) n) 91) (zst (zsetl (zprop Ir (fxP gr (fxAmt gr (fxRest rm (Ir 86) (Ir 92) (zst Ir) n)).toInt64 (fxOpen (Ir 91) (zst Ir) n) (Ir 86) (Ir 91) (zst Ir)) (fxDev (Ir 87) (Ir 88) (fxP gr (fxAmt gr (fxRest rm (Ir 86) (Ir 92) (zst Ir) n)).toInt64 (fxOpen (Ir 91) (zst Ir) n) (Ir 86) (Ir 91) (zst Ir))) n) (fxSum (fxDev (Ir 87) (Ir 88) (fxP gr (fxAmt gr (fxRest rm (Ir 86) (Ir 92) (zst Ir) n)).toInt64 (fxOpen (Ir 91) (zst Ir) n) (Ir 86) (Ir 91) (zst Ir))) (zst Ir) n) n)) n)), (8, .int (fxRest rm (Ir 86) (Ir 92) (zst Ir) n)), (7, .int (nI r)), (4, .int (zB gr)), (3, .int rm), (0, .ref (g.1 83)), (1, .int sp), (2, .int gp)]) hC dX1_share_223 (by decide) rfl ?_
                    refine z_iinc (pc := 225) (v := nI (r + 1)) (lv' := [(7, .int (nI (r + 1))), (5, .long (fxOpen ((zsetl (zprop Ir (fxP gr (fxAmt gr (fxRest rm (Ir 86) (Ir 92) (zst Ir) n)).toInt64 (fxOpen (Ir 91) (zst Ir) n) (Ir 86) (Ir 91) (zst Ir)) (fxDev (Ir 87) (Ir 88) (fxP gr (fxAmt gr (fxRest rm (Ir 86) (Ir 92) (zst Ir) n)).toInt64 (fxOpen (Ir 91) (zst Ir) n) (Ir 86) (Ir 91) (zst Ir))) n) (fxSum (fxDev (Ir 87) (Ir 88) (fxP gr (fxAmt gr (fxRest rm (Ir 86) (Ir 92) (zst Ir) n)).toInt64 (fxOpen (Ir 91) (zst Ir) n) (Ir 86) (Ir 91) (zst Ir))) (zst Ir) n) n) 91) (zst (zsetl (zprop Ir (fxP gr (fxAmt gr (fxRest rm (Ir 86) (Ir 92) (zst Ir) n)).toInt64 (fxOpen (Ir 91) (zst Ir) n) (Ir 86) (Ir 91) (zst Ir)) (fxDev (Ir 87) (Ir 88) (fxP gr (fxAmt gr (fxRest rm (Ir 86) (Ir 92) (zst Ir) n)).toInt64 (fxOpen (Ir 91) (zst Ir) n) (Ir 86) (Ir 91) (zst Ir))) n) (fxSum (fxDev (Ir 87) (Ir 88) (fxP gr (fxAmt gr (fxRest rm (Ir 86) (Ir 92) (zst Ir) n)).toInt64 (fxOpen (Ir 91) (zst Ir) n) (Ir 86) (Ir 91) (zst Ir))) (zst Ir) n) n)) n)), (8, .int (fxRest rm (Ir 86) (Ir 92) (zst Ir) n)), (4, .int (zB gr)), (3, .int rm), (0, .ref (g.1 83)), (1, .int sp), (2, .int gp)]) hC 2 dX1_share_225 rfl (nI_1 r) (by decide) rfl ?_
                    refine z_goto (pc := 228) (tgt := 166) hC dX1_share_228 (by decide) ?_
                    refine z_lvs (lv' := [(7, .int (nI (r + 1))), (5, .long (fxOpen ((zsetl (zprop Ir (fxP gr (fxAmt gr (fxRest rm (Ir 86) (Ir 92) (zst Ir) n)).toInt64 (fxOpen (Ir 91) (zst Ir) n) (Ir 86) (Ir 91) (zst Ir)) (fxDev (Ir 87) (Ir 88) (fxP gr (fxAmt gr (fxRest rm (Ir 86) (Ir 92) (zst Ir) n)).toInt64 (fxOpen (Ir 91) (zst Ir) n) (Ir 86) (Ir 91) (zst Ir))) n) (fxSum (fxDev (Ir 87) (Ir 88) (fxP gr (fxAmt gr (fxRest rm (Ir 86) (Ir 92) (zst Ir) n)).toInt64 (fxOpen (Ir 91) (zst Ir) n) (Ir 86) (Ir 91) (zst Ir))) (zst Ir) n) n) 91) (zst (zsetl (zprop Ir (fxP gr (fxAmt gr (fxRest rm (Ir 86) (Ir 92) (zst Ir) n)).toInt64 (fxOpen (Ir 91) (zst Ir) n) (Ir 86) (Ir 91) (zst Ir)) (fxDev (Ir 87) (Ir 88) (fxP gr (fxAmt gr (fxRest rm (Ir 86) (Ir 92) (zst Ir) n)).toInt64 (fxOpen (Ir 91) (zst Ir) n) (Ir 86) (Ir 91) (zst Ir))) n) (fxSum (fxDev (Ir 87) (Ir 88) (fxP gr (fxAmt gr (fxRest rm (Ir 86) (Ir 92) (zst Ir) n)).toInt64 (fxOpen (Ir 91) (zst Ir) n) (Ir 86) (Ir 91) (zst Ir))) (zst Ir) n) n)) n)), (4, .int (zB gr)), (3, .int rm), (0, .ref (g.1 83)), (1, .int sp), (2, .int gp)]) [0, 1, 3, 4, 5, 6, 7] rfl ?_
                    exact ih (r + 1) _ (by omega) (fxRel_step hrel rfl) (by omega)
                  · skip
                    have g193 := zB_t h193
                    refine z_iload (pc := 196) hC 0 dX1_share_196 rfl ?_
                    refine z_goto (pc := 198) (tgt := 204) hC dX1_share_198 (by decide) ?_
                    refine z_iconst (pc := 204) (v := 0) hC dX1_share_204 rfl ?_
                    refine z_mmax (pc := 205) hC (z_tw zm_2_212) (z_tw zm_2_134) (z_tw zm_1_12) (z_tw zm_2_135) (by rw [hRm]; exact Nat.le_of_ble_eq_true rfl) (by rw [hRm]; exact (Nat.le_of_ble_eq_true rfl)) (by rw [hRm]; exact Nat.zero_le _) (by rw [hRm]; exact Nat.zero_le _) dX1_share_205 ?_
                    rw [show (if fxRest rm (Ir 86) (Ir 92) (zst Ir) n < 0 then 0 else fxRest rm (Ir 86) (Ir 92) (zst Ir) n) = fxAmt gr (fxRest rm (Ir 86) (Ir 92) (zst Ir) n) from by unfold fxAmt; rw [g193]; rfl]
                    refine z_i2l (pc := 208) hC dX1_share_208 ?_
                    refine z_lload (pc := 209) hC 2 dX1_share_209 rfl ?_
                    refine z_iload (pc := 211) hC 3 dX1_share_211 rfl ?_
                    refine z_cV (pc := 213) (st := [.ref (g.1 83)]) hC [.long ((fxAmt gr (fxRest rm (Ir 86) (Ir 92) (zst Ir) n)).toInt64), .long (fxOpen (Ir 91) (zst Ir) n), .int (zB gr)] (kX1_propose C.2.1 g N Ir P J n hn40 ((hrel.1 83 9 (by decide) (by decide) (by decide) (by decide)).trans hn) (fxAmt gr (fxRest rm (Ir 86) (Ir 92) (zst Ir) n)).toInt64 (fxOpen (Ir 91) (zst Ir) n) (zlc_lt g179) gr) rfl (z_lt hC (by decide)) rfl zkX1_propose zm_2_213 ⟨rfl, rfl⟩ rfl rfl hRm ⟨Nat.le_of_ble_eq_true rfl, Nat.le_of_ble_eq_true rfl⟩ (Nat.le_of_ble_eq_true rfl) ⟨Nat.zero_le _, Nat.zero_le _⟩ dX1_share_213 ?_
                    refine z_cV (pc := 216) (st := []) hC [.long (fxSum (fxDev (Ir 87) (Ir 88) (fxP gr (fxAmt gr (fxRest rm (Ir 86) (Ir 92) (zst Ir) n)).toInt64 (fxOpen (Ir 91) (zst Ir) n) (Ir 86) (Ir 91) (zst Ir))) (zst Ir) n)] (kX1_settle C.2.1 g N (zprop Ir (fxP gr (fxAmt gr (fxRest rm (Ir 86) (Ir 92) (zst Ir) n)).toInt64 (fxOpen (Ir 91) (zst Ir) n) (Ir 86) (Ir 91) (zst Ir)) (fxDev (Ir 87) (Ir 88) (fxP gr (fxAmt gr (fxRest rm (Ir 86) (Ir 92) (zst Ir) n)).toInt64 (fxOpen (Ir 91) (zst Ir) n) (Ir 86) (Ir 91) (zst Ir))) n) P J n hn40 ((zprop_o _ _ _ (by decide) (by decide)).trans ((hrel.1 83 9 (by decide) (by decide) (by decide) (by decide)).trans hn)) (fxSum (fxDev (Ir 87) (Ir 88) (fxP gr (fxAmt gr (fxRest rm (Ir 86) (Ir 92) (zst Ir) n)).toInt64 (fxOpen (Ir 91) (zst Ir) n) (Ir 86) (Ir 91) (zst Ir))) (zst Ir) n)) rfl (z_lt hC (by decide)) rfl zkX1_settle zm_2_217 ⟨rfl, rfl⟩ rfl rfl hRm ⟨Nat.le_of_ble_eq_true rfl, Nat.le_of_ble_eq_true rfl⟩ (Nat.le_of_ble_eq_true rfl) ⟨Nat.zero_le _, Nat.zero_le _⟩ dX1_share_216 ?_
                    refine z_aload_n (pc := 219) hC 5 dX1_share_219 rfl rfl z_isr_r ?_
                    refine z_cV (pc := 220) (st := []) hC [] (kX1_openFactors C.2.1 g N (zsetl (zprop Ir (fxP gr (fxAmt gr (fxRest rm (Ir 86) (Ir 92) (zst Ir) n)).toInt64 (fxOpen (Ir 91) (zst Ir) n) (Ir 86) (Ir 91) (zst Ir)) (fxDev (Ir 87) (Ir 88) (fxP gr (fxAmt gr (fxRest rm (Ir 86) (Ir 92) (zst Ir) n)).toInt64 (fxOpen (Ir 91) (zst Ir) n) (Ir 86) (Ir 91) (zst Ir))) n) (fxSum (fxDev (Ir 87) (Ir 88) (fxP gr (fxAmt gr (fxRest rm (Ir 86) (Ir 92) (zst Ir) n)).toInt64 (fxOpen (Ir 91) (zst Ir) n) (Ir 86) (Ir 91) (zst Ir))) (zst Ir) n) n) P J n hn40 ((zsetl_o _ _ (by decide) (by decide)).trans ((zprop_o _ _ _ (by decide) (by decide)).trans ((hrel.1 83 9 (by decide) (by decide) (by decide) (by decide)).trans hn)))) rfl (z_lt hC (by decide)) rfl zkX1_openFactors zm_2_204 ⟨rfl, rfl⟩ rfl rfl hRm ⟨Nat.le_of_ble_eq_true rfl, Nat.le_of_ble_eq_true rfl⟩ (Nat.le_of_ble_eq_true rfl) ⟨Nat.zero_le _, Nat.zero_le _⟩ dX1_share_220 ?_
                    refine z_lstore (pc := 223) (lv' := [(5, .long (fxOpen ((zsetl (zprop Ir (fxP gr (fxAmt gr (fxRest rm (Ir 86) (Ir 92) (zst Ir) n)).toInt64 (fxOpen (Ir 91) (zst Ir) n) (Ir 86) (Ir 91) (zst Ir)) (fxDev (Ir 87) (Ir 88) (fxP gr (fxAmt gr (fxRest rm (Ir 86) (Ir 92) (zst Ir) n)).toInt64 (fxOpen (Ir 91) (zst Ir) n) (Ir 86) (Ir 91) (zst Ir))) n) (fxSum (fxDev (Ir 87) (Ir 88) (fxP gr (fxAmt gr (fxRest rm (Ir 86) (Ir 92) (zst Ir) n)).toInt64 (fxOpen (Ir 91) (zst Ir) n) (Ir 86) (Ir 91) (zst Ir))) (zst Ir) n) n) 91) (zst (zsetl (zprop Ir (fxP gr (fxAmt gr (fxRest rm (Ir 86) (Ir 92) (zst Ir) n)).toInt64 (fxOpen (Ir 91) (zst Ir) n) (Ir 86) (Ir 91) (zst Ir)) (fxDev (Ir 87) (Ir 88) (fxP gr (fxAmt gr (fxRest rm (Ir 86) (Ir 92) (zst Ir) n)).toInt64 (fxOpen (Ir 91) (zst Ir) n) (Ir 86) (Ir 91) (zst Ir))) n) (fxSum (fxDev (Ir 87) (Ir 88) (fxP gr (fxAmt gr (fxRest rm (Ir 86) (Ir 92) (zst Ir) n)).toInt64 (fxOpen (Ir 91) (zst Ir) n) (Ir 86) (Ir 91) (zst Ir))) (zst Ir) n) n)) n)), (8, .int (fxRest rm (Ir 86) (Ir 92) (zst Ir) n)), (7, .int (nI r)), (4, .int (zB gr)), (3, .int rm), (0, .ref (g.1 83)), (1, .int sp), (2, .int gp)]) hC dX1_share_223 (by decide) rfl ?_
                    refine z_iinc (pc := 225) (v := nI (r + 1)) (lv' := [(7, .int (nI (r + 1))), (5, .long (fxOpen ((zsetl (zprop Ir (fxP gr (fxAmt gr (fxRest rm (Ir 86) (Ir 92) (zst Ir) n)).toInt64 (fxOpen (Ir 91) (zst Ir) n) (Ir 86) (Ir 91) (zst Ir)) (fxDev (Ir 87) (Ir 88) (fxP gr (fxAmt gr (fxRest rm (Ir 86) (Ir 92) (zst Ir) n)).toInt64 (fxOpen (Ir 91) (zst Ir) n) (Ir 86) (Ir 91) (zst Ir))) n) (fxSum (fxDev (Ir 87) (Ir 88) (fxP gr (fxAmt gr (fxRest rm (Ir 86) (Ir 92) (zst Ir) n)).toInt64 (fxOpen (Ir 91) (zst Ir) n) (Ir 86) (Ir 91) (zst Ir))) (zst Ir) n) n) 91) (zst (zsetl (zprop Ir (fxP gr (fxAmt gr (fxRest rm (Ir 86) (Ir 92) (zst Ir) n)).toInt64 (fxOpen (Ir 91) (zst Ir) n) (Ir 86) (Ir 91) (zst Ir)) (fxDev (Ir 87) (Ir 88) (fxP gr (fxAmt gr (fxRest rm (Ir 86) (Ir 92) (zst Ir) n)).toInt64 (fxOpen (Ir 91) (zst Ir) n) (Ir 86) (Ir 91) (zst Ir))) n) (fxSum (fxDev (Ir 87) (Ir 88) (fxP gr (fxAmt gr (fxRest rm (Ir 86) (Ir 92) (zst Ir) n)).toInt64 (fxOpen (Ir 91) (zst Ir) n) (Ir 86) (Ir 91) (zst Ir))) (zst Ir) n) n)) n)), (8, .int (fxRest rm (Ir 86) (Ir 92) (zst Ir) n)), (4, .int (zB gr)), (3, .int rm), (0, .ref (g.1 83)), (1, .int sp), (2, .int gp)]) hC 2 dX1_share_225 rfl (nI_1 r) (by decide) rfl ?_
                    refine z_goto (pc := 228) (tgt := 166) hC dX1_share_228 (by decide) ?_
                    refine z_lvs (lv' := [(7, .int (nI (r + 1))), (5, .long (fxOpen ((zsetl (zprop Ir (fxP gr (fxAmt gr (fxRest rm (Ir 86) (Ir 92) (zst Ir) n)).toInt64 (fxOpen (Ir 91) (zst Ir) n) (Ir 86) (Ir 91) (zst Ir)) (fxDev (Ir 87) (Ir 88) (fxP gr (fxAmt gr (fxRest rm (Ir 86) (Ir 92) (zst Ir) n)).toInt64 (fxOpen (Ir 91) (zst Ir) n) (Ir 86) (Ir 91) (zst Ir))) n) (fxSum (fxDev (Ir 87) (Ir 88) (fxP gr (fxAmt gr (fxRest rm (Ir 86) (Ir 92) (zst Ir) n)).toInt64 (fxOpen (Ir 91) (zst Ir) n) (Ir 86) (Ir 91) (zst Ir))) (zst Ir) n) n) 91) (zst (zsetl (zprop Ir (fxP gr (fxAmt gr (fxRest rm (Ir 86) (Ir 92) (zst Ir) n)).toInt64 (fxOpen (Ir 91) (zst Ir) n) (Ir 86) (Ir 91) (zst Ir)) (fxDev (Ir 87) (Ir 88) (fxP gr (fxAmt gr (fxRest rm (Ir 86) (Ir 92) (zst Ir) n)).toInt64 (fxOpen (Ir 91) (zst Ir) n) (Ir 86) (Ir 91) (zst Ir))) n) (fxSum (fxDev (Ir 87) (Ir 88) (fxP gr (fxAmt gr (fxRest rm (Ir 86) (Ir 92) (zst Ir) n)).toInt64 (fxOpen (Ir 91) (zst Ir) n) (Ir 86) (Ir 91) (zst Ir))) (zst Ir) n) n)) n)), (4, .int (zB gr)), (3, .int rm), (0, .ref (g.1 83)), (1, .int sp), (2, .int gp)]) [0, 1, 3, 4, 5, 6, 7] rfl ?_
                    exact ih (r + 1) _ (by omega) (fxRel_step hrel rfl) (by omega)
          exact L166 (n + 1) 0 _ (by omega) (fxRel_0 n gr I _) (by omega)
        · skip
          have g40 := Int32.not_le.mp h40
          have e40 : i < n := zc_lt h40 (by omega) (by omega)
          refine z_iload (pc := 43) hC 0 dX1_share_43 rfl ?_
          refine z_bipush (pc := 45) (v := 40) hC dX1_share_45 rfl ?_
          refine z_icmp_ge (pc := 47) (tgt := 157) hC dX1_share_47 (by decide) (fun h47 => ?_) (fun h47 => ?_)
          · skip
            have g47 := Int32.not_lt.mpr h47
            exact absurd (zc_ge (n := 40) h47 (by omega) (by decide)) (by omega)
          · skip
            have g47 := Int32.not_le.mp h47
            refine z_aload_n (pc := 50) hC 3 dX1_share_50 rfl rfl z_isr_r ?_
            refine z_gF (pc := 51) hC 1 5 (t := 91) rfl (z_lt hC (by decide)) rfl inX1 (by decide) rfl zm_1_164 rfl dX1_share_51 ?_
            refine z_iload (pc := 54) hC 0 dX1_share_54 rfl ?_
            refine z_iload (pc := 56) hC 1 dX1_share_56 rfl ?_
            refine z_if_eq (pc := 58) (tgt := 71) hC dX1_share_58 (by decide) (fun h58 => ?_) (fun h58 => ?_)
            · skip
              have g58 := zB_f h58
              refine z_aload_n (pc := 71) hC 3 dX1_share_71 rfl rfl z_isr_r ?_
              refine z_gF (pc := 72) hC 1 4 (t := 90) rfl (z_lt hC (by decide)) rfl inX1 (by decide) rfl zm_1_163 rfl dX1_share_72 ?_
              refine z_iload (pc := 75) hC 0 dX1_share_75 rfl ?_
              refine z_iaN (pc := 77) hC i (x := I 90 i) rfl (z_lt hC (by decide)) rfl (by omega) (by decide) ((zfacM_o _ _ _ (by decide) (by decide)).trans (zrow_o _ _ (by decide))) dX1_share_77 ?_
              refine z_aload_n (pc := 78) hC 3 dX1_share_78 rfl rfl z_isr_r ?_
              refine z_gF (pc := 79) hC 1 0 (t := 86) rfl (z_lt hC (by decide)) rfl inX1 (by decide) rfl zm_1_159 rfl dX1_share_79 ?_
              refine z_iload (pc := 82) hC 0 dX1_share_82 rfl ?_
              refine z_iaN (pc := 84) hC i (x := I 86 i) rfl (z_lt hC (by decide)) rfl (by omega) (by decide) ((zfacM_o _ _ _ (by decide) (by decide)).trans (zrow_o _ _ (by decide))) dX1_share_84 ?_
              refine z_imul (pc := 85) hC dX1_share_85 ?_
              rw [show (I 90 i) * (I 86 i) = (fxFac gr (I 89) (I 90) (I 86)) i from by unfold fxFac; rw [g58]; rfl]
              refine z_isN (pc := 86) hC i rfl (z_lt hC (by decide)) rfl (by omega) (by decide) dX1_share_86 ?_
              refine z_aload_n (pc := 87) hC 3 dX1_share_87 rfl rfl z_isr_r ?_
              refine z_gF (pc := 88) hC 1 8 (t := 94) rfl (z_lt hC (by decide)) rfl inX1 (by decide) rfl zm_1_167 rfl dX1_share_88 ?_
              refine z_iload (pc := 91) hC 0 dX1_share_91 rfl ?_
              refine z_aload_n (pc := 93) hC 3 dX1_share_93 rfl rfl z_isr_r ?_
              refine z_gF (pc := 94) hC 1 5 (t := 91) rfl (z_lt hC (by decide)) rfl inX1 (by decide) rfl zm_1_164 rfl dX1_share_94 ?_
              refine z_iload (pc := 97) hC 0 dX1_share_97 rfl ?_
              refine z_iaN (pc := 99) hC i (x := fxFac gr (I 89) (I 90) (I 86) i) rfl (z_lt hC (by decide)) rfl (by omega) (by decide) (z_u_s _ _ _ _) dX1_share_99 ?_
              refine z_if_eq (pc := 100) (tgt := 145) hC dX1_share_100 (by decide) (fun h100 => ?_) (fun h100 => ?_)
              · skip
                refine z_iconst (pc := 145) (v := 1) hC dX1_share_145 rfl ?_
                refine z_goto (pc := 146) (tgt := 150) hC dX1_share_146 (by decide) ?_
                refine z_zsN (pc := 150) hC i rfl (z_lt hC (by decide)) rfl (by omega) (by decide) (Or.inr rfl) dX1_share_150 ?_
                refine z_iinc (pc := 151) (v := nI (i + 1)) (lv' := [(5, .int (nI (i + 1))), (4, .int (zB gr)), (3, .int rm), (0, .ref (g.1 83)), (1, .int sp), (2, .int gp)]) hC 0 dX1_share_151 rfl (nI_1 i) (by decide) rfl ?_
                refine z_goto (pc := 154) (tgt := 34) hC dX1_share_154 (by decide) ?_
                rw [zfacM_s _ _ _ (by unfold fxSt0; rw [decide_eq_true h100]; rfl)]
                exact ih (i + 1) (by omega) (by omega)
              · skip
                refine z_iload (pc := 103) hC 1 dX1_share_103 rfl ?_
                refine z_if_eq (pc := 105) (tgt := 128) hC dX1_share_105 (by decide) (fun h105 => ?_) (fun h105 => ?_)
                · skip
                  have g105 := zB_f h105
                  refine z_aload_n (pc := 128) hC 3 dX1_share_128 rfl rfl z_isr_r ?_
                  refine z_gF (pc := 129) hC 1 0 (t := 86) rfl (z_lt hC (by decide)) rfl inX1 (by decide) rfl zm_1_159 rfl dX1_share_129 ?_
                  refine z_iload (pc := 132) hC 0 dX1_share_132 rfl ?_
                  refine z_iaN (pc := 134) hC i (x := I 86 i) rfl (z_lt hC (by decide)) rfl (by omega) (by decide) ((z_u_a _ _ (by decide)).trans ((zfacM_o _ _ _ (by decide) (by decide)).trans (zrow_o _ _ (by decide)))) dX1_share_134 ?_
                  refine z_aload_n (pc := 135) hC 3 dX1_share_135 rfl rfl z_isr_r ?_
                  refine z_gF (pc := 136) hC 1 6 (t := 92) rfl (z_lt hC (by decide)) rfl inX1 (by decide) rfl zm_1_165 rfl dX1_share_136 ?_
                  refine z_iload (pc := 139) hC 0 dX1_share_139 rfl ?_
                  refine z_iaN (pc := 141) hC i (x := fxStart (I 86) (I 87) (I 88) i) rfl (z_lt hC (by decide)) rfl (by omega) (by decide) ((z_u_a _ _ (by decide)).trans ((zfacM_o _ _ _ (by decide) (by decide)).trans (zrow_i _ _ (by omega)))) dX1_share_141 ?_
                  refine z_icmp_ge (pc := 142) (tgt := 149) hC dX1_share_142 (by decide) (fun h142 => ?_) (fun h142 => ?_)
                  · skip
                    have g142 := Int32.not_lt.mpr h142
                    refine z_iconst (pc := 149) (v := 0) hC dX1_share_149 rfl ?_
                    refine z_zsN (pc := 150) hC i rfl (z_lt hC (by decide)) rfl (by omega) (by decide) (Or.inl rfl) dX1_share_150 ?_
                    refine z_iinc (pc := 151) (v := nI (i + 1)) (lv' := [(5, .int (nI (i + 1))), (4, .int (zB gr)), (3, .int rm), (0, .ref (g.1 83)), (1, .int sp), (2, .int gp)]) hC 0 dX1_share_151 rfl (nI_1 i) (by decide) rfl ?_
                    refine z_goto (pc := 154) (tgt := 34) hC dX1_share_154 (by decide) ?_
                    rw [zfacM_s _ _ _ (by unfold fxSt0; rw [decide_eq_false h100, g105]; simp [zB, g142, h142])]
                    exact ih (i + 1) (by omega) (by omega)
                  · skip
                    have g142 := Int32.not_le.mp h142
                    refine z_iconst (pc := 145) (v := 1) hC dX1_share_145 rfl ?_
                    refine z_goto (pc := 146) (tgt := 150) hC dX1_share_146 (by decide) ?_
                    refine z_zsN (pc := 150) hC i rfl (z_lt hC (by decide)) rfl (by omega) (by decide) (Or.inr rfl) dX1_share_150 ?_
                    refine z_iinc (pc := 151) (v := nI (i + 1)) (lv' := [(5, .int (nI (i + 1))), (4, .int (zB gr)), (3, .int rm), (0, .ref (g.1 83)), (1, .int sp), (2, .int gp)]) hC 0 dX1_share_151 rfl (nI_1 i) (by decide) rfl ?_
                    refine z_goto (pc := 154) (tgt := 34) hC dX1_share_154 (by decide) ?_
                    rw [zfacM_s _ _ _ (by unfold fxSt0; rw [decide_eq_false h100, g105]; simp [zB, g142, h142])]
                    exact ih (i + 1) (by omega) (by omega)
                · skip
                  have g105 := zB_t h105
                  exact absurd (g58.symm.trans g105) (by decide)
            · skip
              have g58 := zB_t h58
              refine z_aload_n (pc := 61) hC 3 dX1_share_61 rfl rfl z_isr_r ?_
              refine z_gF (pc := 62) hC 1 3 (t := 89) rfl (z_lt hC (by decide)) rfl inX1 (by decide) rfl zm_1_162 rfl dX1_share_62 ?_
              refine z_iload (pc := 65) hC 0 dX1_share_65 rfl ?_
              refine z_iaN (pc := 67) hC i (x := I 89 i) rfl (z_lt hC (by decide)) rfl (by omega) (by decide) ((zfacM_o _ _ _ (by decide) (by decide)).trans (zrow_o _ _ (by decide))) dX1_share_67 ?_
              refine z_goto (pc := 68) (tgt := 86) hC dX1_share_68 (by decide) ?_
              rw [show I 89 i = (fxFac gr (I 89) (I 90) (I 86)) i from by unfold fxFac; rw [g58]; rfl]
              refine z_isN (pc := 86) hC i rfl (z_lt hC (by decide)) rfl (by omega) (by decide) dX1_share_86 ?_
              refine z_aload_n (pc := 87) hC 3 dX1_share_87 rfl rfl z_isr_r ?_
              refine z_gF (pc := 88) hC 1 8 (t := 94) rfl (z_lt hC (by decide)) rfl inX1 (by decide) rfl zm_1_167 rfl dX1_share_88 ?_
              refine z_iload (pc := 91) hC 0 dX1_share_91 rfl ?_
              refine z_aload_n (pc := 93) hC 3 dX1_share_93 rfl rfl z_isr_r ?_
              refine z_gF (pc := 94) hC 1 5 (t := 91) rfl (z_lt hC (by decide)) rfl inX1 (by decide) rfl zm_1_164 rfl dX1_share_94 ?_
              refine z_iload (pc := 97) hC 0 dX1_share_97 rfl ?_
              refine z_iaN (pc := 99) hC i (x := fxFac gr (I 89) (I 90) (I 86) i) rfl (z_lt hC (by decide)) rfl (by omega) (by decide) (z_u_s _ _ _ _) dX1_share_99 ?_
              refine z_if_eq (pc := 100) (tgt := 145) hC dX1_share_100 (by decide) (fun h100 => ?_) (fun h100 => ?_)
              · skip
                refine z_iconst (pc := 145) (v := 1) hC dX1_share_145 rfl ?_
                refine z_goto (pc := 146) (tgt := 150) hC dX1_share_146 (by decide) ?_
                refine z_zsN (pc := 150) hC i rfl (z_lt hC (by decide)) rfl (by omega) (by decide) (Or.inr rfl) dX1_share_150 ?_
                refine z_iinc (pc := 151) (v := nI (i + 1)) (lv' := [(5, .int (nI (i + 1))), (4, .int (zB gr)), (3, .int rm), (0, .ref (g.1 83)), (1, .int sp), (2, .int gp)]) hC 0 dX1_share_151 rfl (nI_1 i) (by decide) rfl ?_
                refine z_goto (pc := 154) (tgt := 34) hC dX1_share_154 (by decide) ?_
                rw [zfacM_s _ _ _ (by unfold fxSt0; rw [decide_eq_true h100]; rfl)]
                exact ih (i + 1) (by omega) (by omega)
              · skip
                refine z_iload (pc := 103) hC 1 dX1_share_103 rfl ?_
                refine z_if_eq (pc := 105) (tgt := 128) hC dX1_share_105 (by decide) (fun h105 => ?_) (fun h105 => ?_)
                · skip
                  have g105 := zB_f h105
                  exact absurd (g58.symm.trans g105) (by decide)
                · skip
                  have g105 := zB_t h105
                  refine z_aload_n (pc := 108) hC 3 dX1_share_108 rfl rfl z_isr_r ?_
                  refine z_gF (pc := 109) hC 1 0 (t := 86) rfl (z_lt hC (by decide)) rfl inX1 (by decide) rfl zm_1_159 rfl dX1_share_109 ?_
                  refine z_iload (pc := 112) hC 0 dX1_share_112 rfl ?_
                  refine z_iaN (pc := 114) hC i (x := I 86 i) rfl (z_lt hC (by decide)) rfl (by omega) (by decide) ((z_u_a _ _ (by decide)).trans ((zfacM_o _ _ _ (by decide) (by decide)).trans (zrow_o _ _ (by decide)))) dX1_share_114 ?_
                  refine z_aload_n (pc := 115) hC 3 dX1_share_115 rfl rfl z_isr_r ?_
                  refine z_gF (pc := 116) hC 1 6 (t := 92) rfl (z_lt hC (by decide)) rfl inX1 (by decide) rfl zm_1_165 rfl dX1_share_116 ?_
                  refine z_iload (pc := 119) hC 0 dX1_share_119 rfl ?_
                  refine z_iaN (pc := 121) hC i (x := fxStart (I 86) (I 87) (I 88) i) rfl (z_lt hC (by decide)) rfl (by omega) (by decide) ((z_u_a _ _ (by decide)).trans ((zfacM_o _ _ _ (by decide) (by decide)).trans (zrow_i _ _ (by omega)))) dX1_share_121 ?_
                  refine z_icmp_le (pc := 122) (tgt := 149) hC dX1_share_122 (by decide) (fun h122 => ?_) (fun h122 => ?_)
                  · skip
                    have g122 := Int32.not_lt.mpr h122
                    refine z_iconst (pc := 149) (v := 0) hC dX1_share_149 rfl ?_
                    refine z_zsN (pc := 150) hC i rfl (z_lt hC (by decide)) rfl (by omega) (by decide) (Or.inl rfl) dX1_share_150 ?_
                    refine z_iinc (pc := 151) (v := nI (i + 1)) (lv' := [(5, .int (nI (i + 1))), (4, .int (zB gr)), (3, .int rm), (0, .ref (g.1 83)), (1, .int sp), (2, .int gp)]) hC 0 dX1_share_151 rfl (nI_1 i) (by decide) rfl ?_
                    refine z_goto (pc := 154) (tgt := 34) hC dX1_share_154 (by decide) ?_
                    rw [zfacM_s _ _ _ (by unfold fxSt0; rw [decide_eq_false h100, g105]; simp [zB, g122, h122])]
                    exact ih (i + 1) (by omega) (by omega)
                  · skip
                    have g122 := Int32.not_le.mp h122
                    refine z_goto (pc := 125) (tgt := 145) hC dX1_share_125 (by decide) ?_
                    refine z_iconst (pc := 145) (v := 1) hC dX1_share_145 rfl ?_
                    refine z_goto (pc := 146) (tgt := 150) hC dX1_share_146 (by decide) ?_
                    refine z_zsN (pc := 150) hC i rfl (z_lt hC (by decide)) rfl (by omega) (by decide) (Or.inr rfl) dX1_share_150 ?_
                    refine z_iinc (pc := 151) (v := nI (i + 1)) (lv' := [(5, .int (nI (i + 1))), (4, .int (zB gr)), (3, .int rm), (0, .ref (g.1 83)), (1, .int sp), (2, .int gp)]) hC 0 dX1_share_151 rfl (nI_1 i) (by decide) rfl ?_
                    refine z_goto (pc := 154) (tgt := 34) hC dX1_share_154 (by decide) ?_
                    rw [zfacM_s _ _ _ (by unfold fxSt0; rw [decide_eq_false h100, g105]; simp [zB, g122, h122])]
                    exact ih (i + 1) (by omega) (by omega)
    have L := L34 (n + 1) 0 (by omega) (by omega)
    rw [zfacM_0] at L
    exact L
  refine z_icmp_ge (pc := 21) (tgt := 28) hC dX1_share_21 (by decide) (fun h21 => ?_) (fun h21 => ?_)
  · skip
    have g21 := Int32.not_lt.mpr h21
    refine z_iconst (pc := 28) (v := 0) hC dX1_share_28 rfl ?_
    have k29 : zB gr = 0 := by rw [e_gr]; unfold fxGr; rw [decide_eq_false g21]; rfl
    rw [k29] at J29
    exact J29
  · skip
    have g21 := Int32.not_le.mp h21
    refine z_iconst (pc := 24) (v := 1) hC dX1_share_24 rfl ?_
    refine z_goto (pc := 25) (tgt := 29) hC dX1_share_25 (by decide) ?_
    have k29 : zB gr = 1 := by rw [e_gr]; unfold fxGr; rw [decide_eq_true g21]; rfl
    rw [k29] at J29
    exact J29
end ZSH
