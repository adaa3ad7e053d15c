section ZM7
theorem znot_f {c : Bool} (h : (!c) = false) : c = true := by cases c <;> simp_all
theorem znot_t {c : Bool} (h : (!c) = true) : c = false := by cases c <;> simp_all
set_option maxHeartbeats 4000000 in
set_option maxRecDepth 100000 in
theorem kX6_findNaturalWidths (lx : Launch) (g : zG) (N : Nat) (I : Nat → Nat → Int32) (P : Nat → Nat → Option Nat) (J : Nat → Nat → Int64) {σ : zS} (hm : zMd σ I) (hsh : ∀ c, c < sGv σ → I 100 c = zB (sSh σ c)) : z_Ct lx yX6_findNaturalWidths (zT yX6_findNaturalWidths cX6_findNaturalWidths 3 (Option.none : Option FieldType)) ({ frames := 4, cells := 0, slots := 0, locals := 88 } : Room) g N I P J [.ref (g.1 95)] (fun v I' P' J' => v = none ∧ P' = P ∧ J' = J ∧ zNa σ 0 (sNW σ) 0 I I') 0 0 := by
  refine z_of (by decide) (Nat.le_of_ble_eq_true rfl) (lv0 := [(0, .ref (g.1 95))]) rfl ?_
  intro C hlx hC hE hRm
  have hC : zX C cX6_findNaturalWidths 3 RX6 (zT yX6_findNaturalWidths cX6_findNaturalWidths 3 (Option.none : Option FieldType)) g N := hC
  refine z_aload_n (pc := 0) hC 0 dX6_findNaturalWidths_0 rfl rfl z_isr_r ?_
  refine z_gF (pc := 1) hC 6 0 (t := 96) rfl (z_lt hC (by decide)) rfl inX6 (by decide) rfl zm_4_73 rfl dX6_findNaturalWidths_1 ?_
  refine z_iconst (pc := 4) (v := 0) hC dX6_findNaturalWidths_4 rfl ?_
  refine z_iaN (pc := 5) hC 0 (x := nI (sGv σ)) rfl (z_lt hC (by decide)) rfl (by decide) (by decide) hm.2.1 dX6_findNaturalWidths_5 ?_
  refine z_iconst (pc := 6) (v := 1) hC dX6_findNaturalWidths_6 rfl ?_
  refine z_isub (pc := 7) hC dX6_findNaturalWidths_7 ?_
  refine z_istore_n (pc := 8) (lv' := [(1, .int ((nI (sGv σ)) - 1)), (0, .ref (g.1 95))]) hC dX6_findNaturalWidths_8 rfl (by decide) rfl ?_
  rw [zneg1]
  have L9 : ∀ (zf : Nat) (n : Nat) (Ir : Nat → Nat → Int32) (hn : n ≤ sGv σ) (hz : zNa σ 0 (sNW σ) n I Ir), n < zf → zJ C g N 3 0 0 Ir P J 9 [(1, .int (nI n + (-1))), (0, .ref (g.1 95))] [] := by
    intro zf
    induction zf with
    | zero =>
      intro n Ir hn hz hn2
      exact absurd hn2 (Nat.not_lt_zero _)
    | succ zf ih =>
      intro n Ir hn hz hn2
      have hmr := hm.eq (fun k => hz.1 96 k (by decide) (by omega) (by omega))
      refine z_iload_n (pc := 9) hC 0 dX6_findNaturalWidths_9 rfl rfl ?_
      refine z_if_lt (pc := 10) (tgt := 83) hC dX6_findNaturalWidths_10 (by decide) (fun h10 => ?_) (fun h10 => ?_)
      · skip
        have g10 := Int32.not_le.mpr h10
        have e0 := zdec_t (by have := hm.gv; omega) h10
        subst e0
        exact z_vret (pc := 83) hC hE dX6_findNaturalWidths_83 ⟨rfl, rfl, rfl, hz⟩
      · skip
        have g10 := Int32.not_lt.mp h10
        obtain ⟨k, rfl⟩ := zdec_f h10
        rw [zdec k]
        have hkg : k < sGv σ := by omega
        have hk40 : k < 40 := by have := hm.gv; omega
        refine z_aload_n (pc := 13) hC 1 dX6_findNaturalWidths_13 rfl rfl z_isr_r ?_
        refine z_gF (pc := 14) hC 6 6 (t := 100) rfl (z_lt hC (by decide)) rfl inX6 (by decide) rfl zm_4_79 rfl dX6_findNaturalWidths_14 ?_
        refine z_iload_n (pc := 17) hC 0 dX6_findNaturalWidths_17 rfl rfl ?_
        refine z_zaN (pc := 18) hC k (x := zB (sSh σ k)) rfl (z_lt hC (by decide)) rfl hk40 (by decide) ((hz.1 100 k (by decide) (by omega) (by omega)).trans (hsh k hkg)) dX6_findNaturalWidths_18 ?_
        refine z_if_eq (pc := 19) (tgt := 77) hC dX6_findNaturalWidths_19 (by decide) (fun h19 => ?_) (fun h19 => ?_)
        · skip
          have g19 := zB_f h19
          refine z_iinc (pc := 77) (v := (nI k) + (-1)) (lv' := [(1, .int ((nI k) + (-1))), (0, .ref (g.1 95))]) hC 0 dX6_findNaturalWidths_77 rfl rfl (by decide) rfl ?_
          refine z_goto (pc := 80) (tgt := 9) hC dX6_findNaturalWidths_80 (by decide) ?_
          exact ih k Ir (by omega) (zNa_n hz g19) (by omega)
        · skip
          have g19 := zB_t h19
          refine z_aload_n (pc := 22) hC 1 dX6_findNaturalWidths_22 rfl rfl z_isr_r ?_
          refine z_iload_n (pc := 23) hC 0 dX6_findNaturalWidths_23 rfl rfl ?_
          refine z_callV (pc := 24) (st := []) hC [.int (nI k)] ((kX6_layKids C.2.1 g N Ir P J hmr k (sSh_ex hm.1 g19).2)) rfl (z_lt hC (by decide)) rfl zkX6_layKids zm_4_154 ⟨rfl, rfl⟩ rfl rfl hRm ⟨Nat.le_of_ble_eq_true rfl, Nat.le_of_ble_eq_true rfl⟩ (Nat.le_of_ble_eq_true rfl) ⟨Nat.zero_le _, Nat.zero_le _⟩ dX6_findNaturalWidths_24 ?_
          intro v I2 P2 J2 hq
          obtain ⟨hv, hP2, hJ2, hfr, hkq⟩ := hq
          subst hv
          rw [hP2, hJ2]
          have hm2 := hmr.eq (fun k => hfr 96 k (by decide) (by omega))
          have hs := g19
          show zJ C g N 3 0 0 I2 P J 27 [(1, .int (nI k)), (0, .ref (g.1 95))] []
          refine z_aload_n (pc := 27) hC 1 dX6_findNaturalWidths_27 rfl rfl z_isr_r ?_
          refine z_iload_n (pc := 28) hC 0 dX6_findNaturalWidths_28 rfl rfl ?_
          refine z_cV (pc := 29) (st := []) hC [.int (nI k)] (kX6_isLeaf C.2.1 g N I2 P J hm2 k (sSh_ex hm.1 g19).2) rfl (z_lt hC (by decide)) rfl zkX6_isLeaf zm_4_212 ⟨rfl, rfl⟩ rfl rfl hRm ⟨Nat.le_of_ble_eq_true rfl, Nat.le_of_ble_eq_true rfl⟩ (Nat.le_of_ble_eq_true rfl) ⟨Nat.zero_le _, Nat.zero_le _⟩ dX6_findNaturalWidths_29 ?_
          refine z_if_eq (pc := 32) (tgt := 48) hC dX6_findNaturalWidths_32 (by decide) (fun h32 => ?_) (fun h32 => ?_)
          · skip
            have g32 := zB_f h32
            refine z_aload_n (pc := 48) hC 1 dX6_findNaturalWidths_48 rfl rfl z_isr_r ?_
            refine z_iload_n (pc := 49) hC 0 dX6_findNaturalWidths_49 rfl rfl ?_
            refine z_iconst (pc := 50) (v := 0) hC dX6_findNaturalWidths_50 rfl ?_
            refine z_aload_n (pc := 51) hC 1 dX6_findNaturalWidths_51 rfl rfl z_isr_r ?_
            refine z_iload_n (pc := 52) hC 0 dX6_findNaturalWidths_52 rfl rfl ?_
            refine z_iconst (pc := 53) (v := 0) hC dX6_findNaturalWidths_53 rfl ?_
            refine z_cV (pc := 54) (st := [.int 0, .int (nI k), .ref (g.1 95)]) hC [.int (nI k), .int 0] (kX6_of C.2.1 g N I2 P J hm2 k 0 (sSh_ex hm.1 g19).2 (by decide) 0 rfl) rfl (z_lt hC (by decide)) rfl zkX6_of zm_4_162 ⟨rfl, rfl⟩ rfl rfl hRm ⟨Nat.le_of_ble_eq_true rfl, Nat.le_of_ble_eq_true rfl⟩ (Nat.le_of_ble_eq_true rfl) ⟨Nat.zero_le _, Nat.zero_le _⟩ dX6_findNaturalWidths_54 ?_
            refine z_iconst (pc := 57) (v := 1) hC dX6_findNaturalWidths_57 rfl ?_
            refine z_icmp_eq (pc := 58) (tgt := 65) hC dX6_findNaturalWidths_58 (by decide) (fun h58 => ?_) (fun h58 => ?_)
            · skip
              refine z_iconst (pc := 65) (v := 0) hC dX6_findNaturalWidths_65 rfl ?_
              refine z_cV (pc := 66) (st := []) hC [.int (nI k), .int 0, .int 0] (kX6_content C.2.1 g N I2 P J hm2 k (sSh_ex hm.1 hs).2 hkq 0 (by decide) (sNW σ) (fun c hc => (hfr 101 _ (by decide) (by omega)).trans (hz.2 c (sKids_lt hm.1 hc).1 (sKids_sh hm.1 hs hc))) false) rfl (z_lt hC (by decide)) rfl zkX6_content zm_4_216 ⟨rfl, rfl⟩ rfl rfl hRm ⟨Nat.le_of_ble_eq_true rfl, Nat.le_of_ble_eq_true rfl⟩ (Nat.le_of_ble_eq_true rfl) ⟨Nat.zero_le _, Nat.zero_le _⟩ dX6_findNaturalWidths_66 ?_
              rw [show (if false = true then zsum (fun i => sO σ (sNW σ) (kd σ k i)) (kn σ k) + zgap (nI (kn σ k)) (sSt σ k 4) else zmx (fun i => sO σ (sNW σ) (kd σ k i)) (kn σ k)) = sCW σ (sNW σ) k from by unfold sCW; rw [if_pos (znot_f g32), if_pos h58]; rfl]
              refine z_istore_n (pc := 69) (lv' := [(2, .int (sCW σ (sNW σ) k)), (1, .int (nI k)), (0, .ref (g.1 95))]) hC dX6_findNaturalWidths_69 rfl (by decide) rfl ?_
              refine z_aload_n (pc := 70) hC 2 dX6_findNaturalWidths_70 rfl rfl z_isr_r ?_
              refine z_iload_n (pc := 71) hC 1 dX6_findNaturalWidths_71 rfl rfl ?_
              refine z_iconst (pc := 72) (v := 0) hC dX6_findNaturalWidths_72 rfl ?_
              refine z_iload_n (pc := 73) hC 0 dX6_findNaturalWidths_73 rfl rfl ?_
              refine z_cV (pc := 74) (st := []) hC [.int (nI k), .int 0, .int (sCW σ (sNW σ) k)] (kX6_setNatural C.2.1 g N I2 P J hm2 k (sSh_ex hm.1 hs).2 0 (by decide) (sCW σ (sNW σ) k)) rfl (z_lt hC (by decide)) rfl zkX6_setNatural zm_4_228 ⟨rfl, rfl⟩ rfl rfl hRm ⟨Nat.le_of_ble_eq_true rfl, Nat.le_of_ble_eq_true rfl⟩ (Nat.le_of_ble_eq_true rfl) ⟨Nat.zero_le _, Nat.zero_le _⟩ dX6_findNaturalWidths_74 ?_
              refine z_iinc (pc := 77) (v := (nI k) + (-1)) (lv' := [(1, .int ((nI k) + (-1))), (2, .int (sCW σ (sNW σ) k)), (0, .ref (g.1 95))]) hC 1 dX6_findNaturalWidths_77 rfl rfl (by decide) rfl ?_
              refine z_goto (pc := 80) (tgt := 9) hC dX6_findNaturalWidths_80 (by decide) ?_
              refine z_lvs (lv' := [(1, .int ((nI k) + (-1))), (0, .ref (g.1 95))]) [0, 2] rfl ?_
              exact ih k _ (by omega) (zNa_s (by decide) hz hfr (zsn_W.trans (sNW_fix hm.1 k).symm)) (by omega)
            · skip
              refine z_iconst (pc := 61) (v := 1) hC dX6_findNaturalWidths_61 rfl ?_
              refine z_goto (pc := 62) (tgt := 66) hC dX6_findNaturalWidths_62 (by decide) ?_
              refine z_cV (pc := 66) (st := []) hC [.int (nI k), .int 0, .int 1] (kX6_content C.2.1 g N I2 P J hm2 k (sSh_ex hm.1 hs).2 hkq 0 (by decide) (sNW σ) (fun c hc => (hfr 101 _ (by decide) (by omega)).trans (hz.2 c (sKids_lt hm.1 hc).1 (sKids_sh hm.1 hs hc))) true) rfl (z_lt hC (by decide)) rfl zkX6_content zm_4_216 ⟨rfl, rfl⟩ rfl rfl hRm ⟨Nat.le_of_ble_eq_true rfl, Nat.le_of_ble_eq_true rfl⟩ (Nat.le_of_ble_eq_true rfl) ⟨Nat.zero_le _, Nat.zero_le _⟩ dX6_findNaturalWidths_66 ?_
              rw [show (if true = true then zsum (fun i => sO σ (sNW σ) (kd σ k i)) (kn σ k) + zgap (nI (kn σ k)) (sSt σ k 4) else zmx (fun i => sO σ (sNW σ) (kd σ k i)) (kn σ k)) = sCW σ (sNW σ) k from by unfold sCW; rw [if_pos (znot_f g32), if_neg h58]; rfl]
              refine z_istore_n (pc := 69) (lv' := [(2, .int (sCW σ (sNW σ) k)), (1, .int (nI k)), (0, .ref (g.1 95))]) hC dX6_findNaturalWidths_69 rfl (by decide) rfl ?_
              refine z_aload_n (pc := 70) hC 2 dX6_findNaturalWidths_70 rfl rfl z_isr_r ?_
              refine z_iload_n (pc := 71) hC 1 dX6_findNaturalWidths_71 rfl rfl ?_
              refine z_iconst (pc := 72) (v := 0) hC dX6_findNaturalWidths_72 rfl ?_
              refine z_iload_n (pc := 73) hC 0 dX6_findNaturalWidths_73 rfl rfl ?_
              refine z_cV (pc := 74) (st := []) hC [.int (nI k), .int 0, .int (sCW σ (sNW σ) k)] (kX6_setNatural C.2.1 g N I2 P J hm2 k (sSh_ex hm.1 hs).2 0 (by decide) (sCW σ (sNW σ) k)) rfl (z_lt hC (by decide)) rfl zkX6_setNatural zm_4_228 ⟨rfl, rfl⟩ rfl rfl hRm ⟨Nat.le_of_ble_eq_true rfl, Nat.le_of_ble_eq_true rfl⟩ (Nat.le_of_ble_eq_true rfl) ⟨Nat.zero_le _, Nat.zero_le _⟩ dX6_findNaturalWidths_74 ?_
              refine z_iinc (pc := 77) (v := (nI k) + (-1)) (lv' := [(1, .int ((nI k) + (-1))), (2, .int (sCW σ (sNW σ) k)), (0, .ref (g.1 95))]) hC 1 dX6_findNaturalWidths_77 rfl rfl (by decide) rfl ?_
              refine z_goto (pc := 80) (tgt := 9) hC dX6_findNaturalWidths_80 (by decide) ?_
              refine z_lvs (lv' := [(1, .int ((nI k) + (-1))), (0, .ref (g.1 95))]) [0, 2] rfl ?_
              exact ih k _ (by omega) (zNa_s (by decide) hz hfr (zsn_W.trans (sNW_fix hm.1 k).symm)) (by omega)
          · skip
            have g32 := zB_t h32
            refine z_bipush (pc := 35) (v := 8) hC dX6_findNaturalWidths_35 rfl ?_
            refine z_aload_n (pc := 37) hC 1 dX6_findNaturalWidths_37 rfl rfl z_isr_r ?_
            refine z_iload_n (pc := 38) hC 0 dX6_findNaturalWidths_38 rfl rfl ?_
            refine z_bipush (pc := 39) (v := 19) hC dX6_findNaturalWidths_39 rfl ?_
            refine z_cV (pc := 41) (st := [.int 8]) hC [.int (nI k), .int 19] (kX6_of C.2.1 g N I2 P J hm2 k 19 (sSh_ex hm.1 g19).2 (by decide) 19 rfl) rfl (z_lt hC (by decide)) rfl zkX6_of zm_4_162 ⟨rfl, rfl⟩ rfl rfl hRm ⟨Nat.le_of_ble_eq_true rfl, Nat.le_of_ble_eq_true rfl⟩ (Nat.le_of_ble_eq_true rfl) ⟨Nat.zero_le _, Nat.zero_le _⟩ dX6_findNaturalWidths_41 ?_
            refine z_imul (pc := 44) hC dX6_findNaturalWidths_44 ?_
            refine z_goto (pc := 45) (tgt := 69) hC dX6_findNaturalWidths_45 (by decide) ?_
            rw [show (8 * (sSt σ k 19)) = sCW σ (sNW σ) k from by unfold sCW; rw [if_neg (by rw [znot_t g32]; decide)]]
            refine z_istore_n (pc := 69) (lv' := [(2, .int (sCW σ (sNW σ) k)), (1, .int (nI k)), (0, .ref (g.1 95))]) hC dX6_findNaturalWidths_69 rfl (by decide) rfl ?_
            refine z_aload_n (pc := 70) hC 2 dX6_findNaturalWidths_70 rfl rfl z_isr_r ?_
            refine z_iload_n (pc := 71) hC 1 dX6_findNaturalWidths_71 rfl rfl ?_
            refine z_iconst (pc := 72) (v := 0) hC dX6_findNaturalWidths_72 rfl ?_
            refine z_iload_n (pc := 73) hC 0 dX6_findNaturalWidths_73 rfl rfl ?_
            refine z_cV (pc := 74) (st := []) hC [.int (nI k), .int 0, .int (sCW σ (sNW σ) k)] (kX6_setNatural C.2.1 g N I2 P J hm2 k (sSh_ex hm.1 hs).2 0 (by decide) (sCW σ (sNW σ) k)) rfl (z_lt hC (by decide)) rfl zkX6_setNatural zm_4_228 ⟨rfl, rfl⟩ rfl rfl hRm ⟨Nat.le_of_ble_eq_true rfl, Nat.le_of_ble_eq_true rfl⟩ (Nat.le_of_ble_eq_true rfl) ⟨Nat.zero_le _, Nat.zero_le _⟩ dX6_findNaturalWidths_74 ?_
            refine z_iinc (pc := 77) (v := (nI k) + (-1)) (lv' := [(1, .int ((nI k) + (-1))), (2, .int (sCW σ (sNW σ) k)), (0, .ref (g.1 95))]) hC 1 dX6_findNaturalWidths_77 rfl rfl (by decide) rfl ?_
            refine z_goto (pc := 80) (tgt := 9) hC dX6_findNaturalWidths_80 (by decide) ?_
            refine z_lvs (lv' := [(1, .int ((nI k) + (-1))), (0, .ref (g.1 95))]) [0, 2] rfl ?_
            exact ih k _ (by omega) (zNa_s (by decide) hz hfr (zsn_W.trans (sNW_fix hm.1 k).symm)) (by omega)
  exact L9 41 (sGv σ) I (Nat.le_refl _) (zNa_0 hm.1 I) (by have := hm.gv; omega)
theorem z_eqI {C : zC} {g : zG} {N nL cells slots : Nat} {I : Nat → Nat → Int32} {P : Nat → Nat → Option Nat} {J : Nat → Nat → Int64} {pc : Nat} {lv : List (Nat × Value)} {st : List Value} {x y : Int32} (e : x = y) (k : zJ C g N nL cells slots I P J pc lv (.int y :: st)) : zJ C g N nL cells slots I P J pc lv (.int x :: st) := by
  rw [e]
  exact k
theorem zix2z (b : Nat) : (2 : Int32) * nI b = nI (2 * b + 0) := by
  rw [show (2 : Int32) = nI 2 from rfl, nI_mul]
  rfl
theorem zsz_p {σ : zS} (hw : sWF σ) {p : Nat} : ¬ ∃ c, c ∈ sKids σ p ∧ 2 * p + 0 = 2 * c := fun q => by
  obtain ⟨c, hc, e⟩ := q
  have := (sKids_lt hw hc).1
  omega
/-- what findColumnWidths and findLines leave -/
def zfwQ (σ : zS) (nw : Nat → Int32) (p : Nat) (W : Int32) (I : Nat → Nat → Int32) (P : Nat → Nat → Option Nat) (J : Nat → Nat → Int64) : Option Value → (Nat → Nat → Int32) → (Nat → Nat → Option Nat) → (Nat → Nat → Int64) → Prop := fun v I' P' J' => v = none ∧ P' = P ∧ J' = J ∧ ∃ Ir, zcw σ nw p W (kn σ p) I Ir ∧ I' = z_u Ir 105 p (nI (sLCn σ nw p W))
set_option maxHeartbeats 4000000 in
set_option maxRecDepth 100000 in
theorem kX6_findColumnWidths (lx : Launch) (g : zG) (N : Nat) (I : Nat → Nat → Int32) (P : Nat → Nat → Option Nat) (J : Nat → Nat → Int64) {σ : zS} (hm : zMd σ I) (p : Nat) (he : sEx σ p = true) (hk : zKq σ p I) (nw : Nat → Int32) (hn : ∀ k, k ∈ sKids σ p → I 101 (2 * k + 0) = nw k) (W : Int32) (hW : I 102 (2 * p + 0) = W) (hcol : sSt σ p 0 = 1) : z_Ct lx yX6_findColumnWidths (zT yX6_findColumnWidths cX6_findColumnWidths 7 (Option.none : Option FieldType)) ({ frames := 2, cells := 0, slots := 0, locals := 48 } : Room) g N I P J [.ref (g.1 95), .int (nI p)] (zfwQ σ nw p W I P J) 0 0 := by
  refine z_of (by decide) (Nat.le_of_ble_eq_true rfl) (lv0 := [(0, .ref (g.1 95)), (1, .int (nI p))]) rfl ?_
  intro C hlx hC hE hRm
  have hC : zX C cX6_findColumnWidths 7 RX6 (zT yX6_findColumnWidths cX6_findColumnWidths 7 (Option.none : Option FieldType)) g N := hC
  refine z_iconst (pc := 0) (v := 0) hC dX6_findColumnWidths_0 rfl ?_
  refine z_istore_n (pc := 1) (lv' := [(2, .int 0), (0, .ref (g.1 95)), (1, .int (nI p))]) hC dX6_findColumnWidths_1 rfl (by decide) rfl ?_
  have L2 : ∀ (zf : Nat) (k : Nat) (Ir : Nat → Nat → Int32) (hkk : k ≤ kn σ p) (hz : zcw σ nw p W k I Ir), kn σ p - k < zf → zJ C g N 7 0 0 Ir P J 2 [(2, .int (nI k)), (0, .ref (g.1 95)), (1, .int (nI p))] [] := by
    intro zf
    induction zf with
    | zero =>
      intro k Ir hkk hz hn2
      exact absurd hn2 (Nat.not_lt_zero _)
    | succ zf ih =>
      intro k Ir hkk hz hn2
      have hmr := hm.eq (fun k => hz.1 96 k (by omega) (by omega))
      refine z_iload_n (pc := 2) hC 0 dX6_findColumnWidths_2 rfl rfl ?_
      refine z_aload_n (pc := 3) hC 1 dX6_findColumnWidths_3 rfl rfl z_isr_r ?_
      refine z_gI (pc := 4) hC 6 5 (x := nI (kn σ p)) rfl (z_lt hC (by decide)) rfl inX6 (by decide) rfl zm_4_78 ((hz.1 95 5 (by omega) (by omega)).trans hk.1) dX6_findColumnWidths_4 ?_
      refine z_icmp_ge (pc := 7) (tgt := 123) hC dX6_findColumnWidths_7 (by decide) (fun h7 => ?_) (fun h7 => ?_)
      · skip
        have g7 := Int32.not_lt.mpr h7
        have ek : k = kn σ p := Nat.le_antisymm hkk (zc_ge h7 (by have := kn_le hm.1 p; omega) (by have := kn_le hm.1 p; omega))
        refine z_aload_n (pc := 123) hC 1 dX6_findColumnWidths_123 rfl rfl z_isr_r ?_
        refine z_gF (pc := 124) hC 6 11 (t := 105) rfl (z_lt hC (by decide)) rfl inX6 (by decide) rfl zm_4_84 rfl dX6_findColumnWidths_124 ?_
        refine z_iload_n (pc := 127) hC 2 dX6_findColumnWidths_127 rfl rfl ?_
        refine z_aload_n (pc := 128) hC 1 dX6_findColumnWidths_128 rfl rfl z_isr_r ?_
        refine z_gI (pc := 129) hC 6 5 (x := nI (kn σ p)) rfl (z_lt hC (by decide)) rfl inX6 (by decide) rfl zm_4_78 ((hz.1 95 5 (by omega) (by omega)).trans hk.1) dX6_findColumnWidths_129 ?_
        refine z_isN (pc := 132) hC p rfl (z_lt hC (by decide)) rfl (hm.lt he).2 (by decide) dX6_findColumnWidths_132 ?_
        exact z_vret (pc := 133) hC hE dX6_findColumnWidths_133 (by subst ek; exact ⟨rfl, rfl, rfl, _, hz, by rw [sLCn_col hcol]⟩)
      · skip
        have g7 := Int32.not_le.mp h7
        have hkn : k < kn σ p := zc_lt h7 (by have := kn_le hm.1 p; omega) (by have := kn_le hm.1 p; omega)
        have hk40 := (sKids_lt hm.1 (kd_mem hkn)).2.1
        have hkm := kn_le hm.1 p
        refine z_aload_n (pc := 10) hC 1 dX6_findColumnWidths_10 rfl rfl z_isr_r ?_
        refine z_gF (pc := 11) hC 6 4 (t := 99) rfl (z_lt hC (by decide)) rfl inX6 (by decide) rfl zm_4_77 rfl dX6_findColumnWidths_11 ?_
        refine z_iload_n (pc := 14) hC 0 dX6_findColumnWidths_14 rfl rfl ?_
        refine z_iaN (pc := 15) hC k (x := nI (kd σ p k)) rfl (z_lt hC (by decide)) rfl (by omega) (by decide) ((hz.1 99 k (by omega) (by omega)).trans (hk.2 k hkn)) dX6_findColumnWidths_15 ?_
        refine z_istore_n (pc := 16) (lv' := [(3, .int (nI (kd σ p k))), (2, .int (nI k)), (0, .ref (g.1 95)), (1, .int (nI p))]) hC dX6_findColumnWidths_16 rfl (by decide) rfl ?_
        refine z_aload_n (pc := 17) hC 2 dX6_findColumnWidths_17 rfl rfl z_isr_r ?_
        refine z_iload_n (pc := 18) hC 3 dX6_findColumnWidths_18 rfl rfl ?_
        refine z_iconst (pc := 19) (v := 0) hC dX6_findColumnWidths_19 rfl ?_
        refine z_cV (pc := 20) (st := []) hC [.int (nI p), .int 0] (kX6_inner C.2.1 g N Ir P J hmr p 0 he (by decide) W ((hz.1 102 _ (fun z => zsz_p hm.1 z.2) (by omega)).trans hW)) rfl (z_lt hC (by decide)) rfl zkX6_inner zm_5_4 ⟨rfl, rfl⟩ rfl rfl hRm ⟨Nat.le_of_ble_eq_true rfl, Nat.le_of_ble_eq_true rfl⟩ (Nat.le_of_ble_eq_true rfl) ⟨Nat.zero_le _, Nat.zero_le _⟩ dX6_findColumnWidths_20 ?_
        refine z_iconst (pc := 23) (v := 2) hC dX6_findColumnWidths_23 rfl ?_
        refine z_aload_n (pc := 24) hC 2 dX6_findColumnWidths_24 rfl rfl z_isr_r ?_
        refine z_iload_n (pc := 25) hC 0 dX6_findColumnWidths_25 rfl rfl ?_
        refine z_bipush (pc := 26) (v := 6) hC dX6_findColumnWidths_26 rfl ?_
        refine z_cV (pc := 28) (st := [.int 2, .int (sIn W (sSt σ p 5))]) hC [.int (nI (kd σ p k)), .int 6] (kX6_of C.2.1 g N Ir P J hmr (kd σ p k) 6 (sKids_lt hm.1 (kd_mem hkn)).2.2.1 (by decide) 6 rfl) rfl (z_lt hC (by decide)) rfl zkX6_of zm_4_162 ⟨rfl, rfl⟩ rfl rfl hRm ⟨Nat.le_of_ble_eq_true rfl, Nat.le_of_ble_eq_true rfl⟩ (Nat.le_of_ble_eq_true rfl) ⟨Nat.zero_le _, Nat.zero_le _⟩ dX6_findColumnWidths_28 ?_
        refine z_imul (pc := 31) hC dX6_findColumnWidths_31 ?_
        refine z_isub (pc := 32) hC dX6_findColumnWidths_32 ?_
        refine z_cS (pc := 33) (st := []) hC [.int ((sIn W (sSt σ p 5)) - (2 * (sSt σ (kd σ p k) 6)))] (kX6_notNegative C.2.1 g N Ir P J ((sIn W (sSt σ p 5)) - (2 * (sSt σ (kd σ p k) 6)))) zkX6_notNegative zm_5_8 ⟨rfl, rfl⟩ rfl rfl hRm ⟨Nat.le_of_ble_eq_true rfl, Nat.le_of_ble_eq_true rfl⟩ (Nat.le_of_ble_eq_true rfl) ⟨Nat.zero_le _, Nat.zero_le _⟩ dX6_findColumnWidths_33 ?_
        refine z_istore (pc := 36) (lv' := [(4, .int (zpos ((sIn W (sSt σ p 5)) - (2 * (sSt σ (kd σ p k) 6))))), (3, .int (nI (kd σ p k))), (2, .int (nI k)), (0, .ref (g.1 95)), (1, .int (nI p))]) hC dX6_findColumnWidths_36 (by decide) rfl ?_
        refine z_aload_n (pc := 38) hC 3 dX6_findColumnWidths_38 rfl rfl z_isr_r ?_
        refine z_gF (pc := 39) hC 6 7 (t := 101) rfl (z_lt hC (by decide)) rfl inX6 (by decide) rfl zm_4_80 rfl dX6_findColumnWidths_39 ?_
        refine z_iconst (pc := 42) (v := 2) hC dX6_findColumnWidths_42 rfl ?_
        refine z_iload_n (pc := 43) hC 1 dX6_findColumnWidths_43 rfl rfl ?_
        refine z_imul (pc := 44) hC dX6_findColumnWidths_44 ?_
        refine z_iaN (pc := 45) hC (2 * (kd σ p k) + 0) (x := nw (kd σ p k)) rfl (z_lt hC (by decide)) (zix2z (kd σ p k)) (by omega) (by decide) ((hz.1 101 _ (by omega) (by omega)).trans (hn _ (kd_mem hkn))) dX6_findColumnWidths_45 ?_
        refine z_istore (pc := 46) (lv' := [(5, .int (nw (kd σ p k))), (4, .int (zpos ((sIn W (sSt σ p 5)) - (2 * (sSt σ (kd σ p k) 6))))), (3, .int (nI (kd σ p k))), (2, .int (nI k)), (0, .ref (g.1 95)), (1, .int (nI p))]) hC dX6_findColumnWidths_46 (by decide) rfl ?_
        refine z_aload_n (pc := 48) hC 4 dX6_findColumnWidths_48 rfl rfl z_isr_r ?_
        refine z_iload_n (pc := 49) hC 2 dX6_findColumnWidths_49 rfl rfl ?_
        refine z_bipush (pc := 50) (v := 10) hC dX6_findColumnWidths_50 rfl ?_
        refine z_cV (pc := 52) (st := []) hC [.int (nI (kd σ p k)), .int 10] (kX6_of C.2.1 g N Ir P J hmr (kd σ p k) 10 (sKids_lt hm.1 (kd_mem hkn)).2.2.1 (by decide) 10 rfl) rfl (z_lt hC (by decide)) rfl zkX6_of zm_4_162 ⟨rfl, rfl⟩ rfl rfl hRm ⟨Nat.le_of_ble_eq_true rfl, Nat.le_of_ble_eq_true rfl⟩ (Nat.le_of_ble_eq_true rfl) ⟨Nat.zero_le _, Nat.zero_le _⟩ dX6_findColumnWidths_52 ?_
        refine z_iconst (pc := 55) (v := (-1)) hC dX6_findColumnWidths_55 rfl ?_
        refine z_icmp_eq (pc := 56) (tgt := 69) hC dX6_findColumnWidths_56 (by decide) (fun h56 => ?_) (fun h56 => ?_)
        · skip
          refine z_aload_n (pc := 69) hC 4 dX6_findColumnWidths_69 rfl rfl z_isr_r ?_
          refine z_iload_n (pc := 70) hC 2 dX6_findColumnWidths_70 rfl rfl ?_
          refine z_cV (pc := 71) (st := []) hC [.int (nI (kd σ p k))] (kX6_alignment C.2.1 g N Ir P J hmr (kd σ p k) (sKids_lt hm.1 (kd_mem hkn)).2.2.1 (sKids_lt hm.1 (kd_mem hkn)).2.2.2.2) rfl (z_lt hC (by decide)) rfl zkX6_alignment zm_5_15 ⟨rfl, rfl⟩ rfl rfl hRm ⟨Nat.le_of_ble_eq_true rfl, Nat.le_of_ble_eq_true rfl⟩ (Nat.le_of_ble_eq_true rfl) ⟨Nat.zero_le _, Nat.zero_le _⟩ dX6_findColumnWidths_71 ?_
          refine z_iconst (pc := 74) (v := 3) hC dX6_findColumnWidths_74 rfl ?_
          refine z_icmp_eq (pc := 75) (tgt := 85) hC dX6_findColumnWidths_75 (by decide) (fun h75 => ?_) (fun h75 => ?_)
          · skip
            refine z_iload (pc := 85) hC 1 dX6_findColumnWidths_85 rfl ?_
            refine z_goto (pc := 87) (tgt := 92) hC dX6_findColumnWidths_87 (by decide) ?_
            refine z_eqI (show zpos ((sIn W (sSt σ p 5)) - (2 * (sSt σ (kd σ p k) 6))) = (if sSt σ (kd σ p k) 10 = -1 then (if sAl σ (kd σ p k) = 3 then (zpos (sIn W (sSt σ p 5) - 2 * sSt σ (kd σ p k) 6)) else (if nw (kd σ p k) < (zpos (sIn W (sSt σ p 5) - 2 * sSt σ (kd σ p k) 6)) then nw (kd σ p k) else (zpos (sIn W (sSt σ p 5) - 2 * sSt σ (kd σ p k) 6)))) else sSt σ (kd σ p k) 10) from by rw [if_pos h56, if_pos h75]) ?_
            refine z_istore (pc := 92) (lv' := [(6, .int (if sSt σ (kd σ p k) 10 = -1 then (if sAl σ (kd σ p k) = 3 then (zpos (sIn W (sSt σ p 5) - 2 * sSt σ (kd σ p k) 6)) else (if nw (kd σ p k) < (zpos (sIn W (sSt σ p 5) - 2 * sSt σ (kd σ p k) 6)) then nw (kd σ p k) else (zpos (sIn W (sSt σ p 5) - 2 * sSt σ (kd σ p k) 6)))) else sSt σ (kd σ p k) 10)), (5, .int (nw (kd σ p k))), (4, .int (zpos ((sIn W (sSt σ p 5)) - (2 * (sSt σ (kd σ p k) 6))))), (3, .int (nI (kd σ p k))), (2, .int (nI k)), (0, .ref (g.1 95)), (1, .int (nI p))]) hC dX6_findColumnWidths_92 (by decide) rfl ?_
            refine z_aload_n (pc := 94) hC 5 dX6_findColumnWidths_94 rfl rfl z_isr_r ?_
            refine z_gF (pc := 95) hC 6 8 (t := 102) rfl (z_lt hC (by decide)) rfl inX6 (by decide) rfl zm_4_81 rfl dX6_findColumnWidths_95 ?_
            refine z_iconst (pc := 98) (v := 2) hC dX6_findColumnWidths_98 rfl ?_
            refine z_iload_n (pc := 99) hC 3 dX6_findColumnWidths_99 rfl rfl ?_
            refine z_imul (pc := 100) hC dX6_findColumnWidths_100 ?_
            refine z_aload_n (pc := 101) hC 5 dX6_findColumnWidths_101 rfl rfl z_isr_r ?_
            refine z_iload_n (pc := 102) hC 3 dX6_findColumnWidths_102 rfl rfl ?_
            refine z_iconst (pc := 103) (v := 0) hC dX6_findColumnWidths_103 rfl ?_
            refine z_iload (pc := 104) hC 0 dX6_findColumnWidths_104 rfl ?_
            refine z_cV (pc := 106) (st := [.int (2 * (nI (kd σ p k))), .ref (g.1 102)]) hC [.int (nI (kd σ p k)), .int 0, .int (if sSt σ (kd σ p k) 10 = -1 then (if sAl σ (kd σ p k) = 3 then (zpos (sIn W (sSt σ p 5) - 2 * sSt σ (kd σ p k) 6)) else (if nw (kd σ p k) < (zpos (sIn W (sSt σ p 5) - 2 * sSt σ (kd σ p k) 6)) then nw (kd σ p k) else (zpos (sIn W (sSt σ p 5) - 2 * sSt σ (kd σ p k) 6)))) else sSt σ (kd σ p k) 10)] (kX6_limited C.2.1 g N Ir P J hmr (kd σ p k) 0 (sKids_lt hm.1 (kd_mem hkn)).2.2.1 (by decide) (if sSt σ (kd σ p k) 10 = -1 then (if sAl σ (kd σ p k) = 3 then (zpos (sIn W (sSt σ p 5) - 2 * sSt σ (kd σ p k) 6)) else (if nw (kd σ p k) < (zpos (sIn W (sSt σ p 5) - 2 * sSt σ (kd σ p k) 6)) then nw (kd σ p k) else (zpos (sIn W (sSt σ p 5) - 2 * sSt σ (kd σ p k) 6)))) else sSt σ (kd σ p k) 10)) rfl (z_lt hC (by decide)) rfl zkX6_limited zm_4_232 ⟨rfl, rfl⟩ rfl rfl hRm ⟨Nat.le_of_ble_eq_true rfl, Nat.le_of_ble_eq_true rfl⟩ (Nat.le_of_ble_eq_true rfl) ⟨Nat.zero_le _, Nat.zero_le _⟩ dX6_findColumnWidths_106 ?_
            refine z_isN (pc := 109) hC (2 * (kd σ p k) + 0) rfl (z_lt hC (by decide)) (zix2z (kd σ p k)) (by omega) (by decide) dX6_findColumnWidths_109 ?_
            refine z_aload_n (pc := 110) hC 5 dX6_findColumnWidths_110 rfl rfl z_isr_r ?_
            refine z_gF (pc := 111) hC 6 10 (t := 104) rfl (z_lt hC (by decide)) rfl inX6 (by decide) rfl zm_4_83 rfl dX6_findColumnWidths_111 ?_
            refine z_iload_n (pc := 114) hC 3 dX6_findColumnWidths_114 rfl rfl ?_
            refine z_iload_n (pc := 115) hC 4 dX6_findColumnWidths_115 rfl rfl ?_
            refine z_isN (pc := 116) hC (kd σ p k) rfl (z_lt hC (by decide)) rfl hk40 (by decide) dX6_findColumnWidths_116 ?_
            refine z_iinc (pc := 117) (v := nI (k + 1)) (lv' := [(2, .int (nI (k + 1))), (6, .int (if sSt σ (kd σ p k) 10 = -1 then (if sAl σ (kd σ p k) = 3 then (zpos (sIn W (sSt σ p 5) - 2 * sSt σ (kd σ p k) 6)) else (if nw (kd σ p k) < (zpos (sIn W (sSt σ p 5) - 2 * sSt σ (kd σ p k) 6)) then nw (kd σ p k) else (zpos (sIn W (sSt σ p 5) - 2 * sSt σ (kd σ p k) 6)))) else sSt σ (kd σ p k) 10)), (5, .int (nw (kd σ p k))), (4, .int (zpos ((sIn W (sSt σ p 5)) - (2 * (sSt σ (kd σ p k) 6))))), (3, .int (nI (kd σ p k))), (0, .ref (g.1 95)), (1, .int (nI p))]) hC 4 dX6_findColumnWidths_117 rfl (nI_1 k) (by decide) rfl ?_
            refine z_goto (pc := 120) (tgt := 2) hC dX6_findColumnWidths_120 (by decide) ?_
            refine z_lvs (lv' := [(2, .int (nI (k + 1))), (0, .ref (g.1 95)), (1, .int (nI p))]) [0, 5, 6] rfl ?_
            exact ih (k + 1) _ (by omega) (zcw_s hkn hz (by unfold sKW sCoW; rw [if_pos hcol]) (by rw [sLn_col hcol])) (by omega)
          · skip
            refine z_iload (pc := 78) hC 1 dX6_findColumnWidths_78 rfl ?_
            refine z_iload (pc := 80) hC 0 dX6_findColumnWidths_80 rfl ?_
            refine z_icmp_ge (pc := 82) (tgt := 90) hC dX6_findColumnWidths_82 (by decide) (fun h82 => ?_) (fun h82 => ?_)
            · skip
              have g82 := Int32.not_lt.mpr h82
              refine z_iload (pc := 90) hC 0 dX6_findColumnWidths_90 rfl ?_
              refine z_eqI (show nw (kd σ p k) = (if sSt σ (kd σ p k) 10 = -1 then (if sAl σ (kd σ p k) = 3 then (zpos (sIn W (sSt σ p 5) - 2 * sSt σ (kd σ p k) 6)) else (if nw (kd σ p k) < (zpos (sIn W (sSt σ p 5) - 2 * sSt σ (kd σ p k) 6)) then nw (kd σ p k) else (zpos (sIn W (sSt σ p 5) - 2 * sSt σ (kd σ p k) 6)))) else sSt σ (kd σ p k) 10) from by rw [if_pos h56, if_neg h75, zmin, if_neg (Int32.not_lt.mpr h82)]) ?_
              refine z_istore (pc := 92) (lv' := [(6, .int (if sSt σ (kd σ p k) 10 = -1 then (if sAl σ (kd σ p k) = 3 then (zpos (sIn W (sSt σ p 5) - 2 * sSt σ (kd σ p k) 6)) else (if nw (kd σ p k) < (zpos (sIn W (sSt σ p 5) - 2 * sSt σ (kd σ p k) 6)) then nw (kd σ p k) else (zpos (sIn W (sSt σ p 5) - 2 * sSt σ (kd σ p k) 6)))) else sSt σ (kd σ p k) 10)), (5, .int (nw (kd σ p k))), (4, .int (zpos ((sIn W (sSt σ p 5)) - (2 * (sSt σ (kd σ p k) 6))))), (3, .int (nI (kd σ p k))), (2, .int (nI k)), (0, .ref (g.1 95)), (1, .int (nI p))]) hC dX6_findColumnWidths_92 (by decide) rfl ?_
              refine z_aload_n (pc := 94) hC 5 dX6_findColumnWidths_94 rfl rfl z_isr_r ?_
              refine z_gF (pc := 95) hC 6 8 (t := 102) rfl (z_lt hC (by decide)) rfl inX6 (by decide) rfl zm_4_81 rfl dX6_findColumnWidths_95 ?_
              refine z_iconst (pc := 98) (v := 2) hC dX6_findColumnWidths_98 rfl ?_
              refine z_iload_n (pc := 99) hC 3 dX6_findColumnWidths_99 rfl rfl ?_
              refine z_imul (pc := 100) hC dX6_findColumnWidths_100 ?_
              refine z_aload_n (pc := 101) hC 5 dX6_findColumnWidths_101 rfl rfl z_isr_r ?_
              refine z_iload_n (pc := 102) hC 3 dX6_findColumnWidths_102 rfl rfl ?_
              refine z_iconst (pc := 103) (v := 0) hC dX6_findColumnWidths_103 rfl ?_
              refine z_iload (pc := 104) hC 0 dX6_findColumnWidths_104 rfl ?_
              refine z_cV (pc := 106) (st := [.int (2 * (nI (kd σ p k))), .ref (g.1 102)]) hC [.int (nI (kd σ p k)), .int 0, .int (if sSt σ (kd σ p k) 10 = -1 then (if sAl σ (kd σ p k) = 3 then (zpos (sIn W (sSt σ p 5) - 2 * sSt σ (kd σ p k) 6)) else (if nw (kd σ p k) < (zpos (sIn W (sSt σ p 5) - 2 * sSt σ (kd σ p k) 6)) then nw (kd σ p k) else (zpos (sIn W (sSt σ p 5) - 2 * sSt σ (kd σ p k) 6)))) else sSt σ (kd σ p k) 10)] (kX6_limited C.2.1 g N Ir P J hmr (kd σ p k) 0 (sKids_lt hm.1 (kd_mem hkn)).2.2.1 (by decide) (if sSt σ (kd σ p k) 10 = -1 then (if sAl σ (kd σ p k) = 3 then (zpos (sIn W (sSt σ p 5) - 2 * sSt σ (kd σ p k) 6)) else (if nw (kd σ p k) < (zpos (sIn W (sSt σ p 5) - 2 * sSt σ (kd σ p k) 6)) then nw (kd σ p k) else (zpos (sIn W (sSt σ p 5) - 2 * sSt σ (kd σ p k) 6)))) else sSt σ (kd σ p k) 10)) rfl (z_lt hC (by decide)) rfl zkX6_limited zm_4_232 ⟨rfl, rfl⟩ rfl rfl hRm ⟨Nat.le_of_ble_eq_true rfl, Nat.le_of_ble_eq_true rfl⟩ (Nat.le_of_ble_eq_true rfl) ⟨Nat.zero_le _, Nat.zero_le _⟩ dX6_findColumnWidths_106 ?_
              refine z_isN (pc := 109) hC (2 * (kd σ p k) + 0) rfl (z_lt hC (by decide)) (zix2z (kd σ p k)) (by omega) (by decide) dX6_findColumnWidths_109 ?_
              refine z_aload_n (pc := 110) hC 5 dX6_findColumnWidths_110 rfl rfl z_isr_r ?_
              refine z_gF (pc := 111) hC 6 10 (t := 104) rfl (z_lt hC (by decide)) rfl inX6 (by decide) rfl zm_4_83 rfl dX6_findColumnWidths_111 ?_
              refine z_iload_n (pc := 114) hC 3 dX6_findColumnWidths_114 rfl rfl ?_
              refine z_iload_n (pc := 115) hC 4 dX6_findColumnWidths_115 rfl rfl ?_
              refine z_isN (pc := 116) hC (kd σ p k) rfl (z_lt hC (by decide)) rfl hk40 (by decide) dX6_findColumnWidths_116 ?_
              refine z_iinc (pc := 117) (v := nI (k + 1)) (lv' := [(2, .int (nI (k + 1))), (6, .int (if sSt σ (kd σ p k) 10 = -1 then (if sAl σ (kd σ p k) = 3 then (zpos (sIn W (sSt σ p 5) - 2 * sSt σ (kd σ p k) 6)) else (if nw (kd σ p k) < (zpos (sIn W (sSt σ p 5) - 2 * sSt σ (kd σ p k) 6)) then nw (kd σ p k) else (zpos (sIn W (sSt σ p 5) - 2 * sSt σ (kd σ p k) 6)))) else sSt σ (kd σ p k) 10)), (5, .int (nw (kd σ p k))), (4, .int (zpos ((sIn W (sSt σ p 5)) - (2 * (sSt σ (kd σ p k) 6))))), (3, .int (nI (kd σ p k))), (0, .ref (g.1 95)), (1, .int (nI p))]) hC 4 dX6_findColumnWidths_117 rfl (nI_1 k) (by decide) rfl ?_
              refine z_goto (pc := 120) (tgt := 2) hC dX6_findColumnWidths_120 (by decide) ?_
              refine z_lvs (lv' := [(2, .int (nI (k + 1))), (0, .ref (g.1 95)), (1, .int (nI p))]) [0, 5, 6] rfl ?_
              exact ih (k + 1) _ (by omega) (zcw_s hkn hz (by unfold sKW sCoW; rw [if_pos hcol]) (by rw [sLn_col hcol])) (by omega)
            · skip
              have g82 := Int32.not_le.mp h82
              refine z_iload (pc := 85) hC 1 dX6_findColumnWidths_85 rfl ?_
              refine z_goto (pc := 87) (tgt := 92) hC dX6_findColumnWidths_87 (by decide) ?_
              refine z_eqI (show zpos ((sIn W (sSt σ p 5)) - (2 * (sSt σ (kd σ p k) 6))) = (if sSt σ (kd σ p k) 10 = -1 then (if sAl σ (kd σ p k) = 3 then (zpos (sIn W (sSt σ p 5) - 2 * sSt σ (kd σ p k) 6)) else (if nw (kd σ p k) < (zpos (sIn W (sSt σ p 5) - 2 * sSt σ (kd σ p k) 6)) then nw (kd σ p k) else (zpos (sIn W (sSt σ p 5) - 2 * sSt σ (kd σ p k) 6)))) else sSt σ (kd σ p k) 10) from by rw [if_pos h56, if_neg h75, zmin, if_pos (Int32.not_le.mp h82)]) ?_
              refine z_istore (pc := 92) (lv' := [(6, .int (if sSt σ (kd σ p k) 10 = -1 then (if sAl σ (kd σ p k) = 3 then (zpos (sIn W (sSt σ p 5) - 2 * sSt σ (kd σ p k) 6)) else (if nw (kd σ p k) < (zpos (sIn W (sSt σ p 5) - 2 * sSt σ (kd σ p k) 6)) then nw (kd σ p k) else (zpos (sIn W (sSt σ p 5) - 2 * sSt σ (kd σ p k) 6)))) else sSt σ (kd σ p k) 10)), (5, .int (nw (kd σ p k))), (4, .int (zpos ((sIn W (sSt σ p 5)) - (2 * (sSt σ (kd σ p k) 6))))), (3, .int (nI (kd σ p k))), (2, .int (nI k)), (0, .ref (g.1 95)), (1, .int (nI p))]) hC dX6_findColumnWidths_92 (by decide) rfl ?_
              refine z_aload_n (pc := 94) hC 5 dX6_findColumnWidths_94 rfl rfl z_isr_r ?_
              refine z_gF (pc := 95) hC 6 8 (t := 102) rfl (z_lt hC (by decide)) rfl inX6 (by decide) rfl zm_4_81 rfl dX6_findColumnWidths_95 ?_
              refine z_iconst (pc := 98) (v := 2) hC dX6_findColumnWidths_98 rfl ?_
              refine z_iload_n (pc := 99) hC 3 dX6_findColumnWidths_99 rfl rfl ?_
              refine z_imul (pc := 100) hC dX6_findColumnWidths_100 ?_
              refine z_aload_n (pc := 101) hC 5 dX6_findColumnWidths_101 rfl rfl z_isr_r ?_
              refine z_iload_n (pc := 102) hC 3 dX6_findColumnWidths_102 rfl rfl ?_
              refine z_iconst (pc := 103) (v := 0) hC dX6_findColumnWidths_103 rfl ?_
              refine z_iload (pc := 104) hC 0 dX6_findColumnWidths_104 rfl ?_
              refine z_cV (pc := 106) (st := [.int (2 * (nI (kd σ p k))), .ref (g.1 102)]) hC [.int (nI (kd σ p k)), .int 0, .int (if sSt σ (kd σ p k) 10 = -1 then (if sAl σ (kd σ p k) = 3 then (zpos (sIn W (sSt σ p 5) - 2 * sSt σ (kd σ p k) 6)) else (if nw (kd σ p k) < (zpos (sIn W (sSt σ p 5) - 2 * sSt σ (kd σ p k) 6)) then nw (kd σ p k) else (zpos (sIn W (sSt σ p 5) - 2 * sSt σ (kd σ p k) 6)))) else sSt σ (kd σ p k) 10)] (kX6_limited C.2.1 g N Ir P J hmr (kd σ p k) 0 (sKids_lt hm.1 (kd_mem hkn)).2.2.1 (by decide) (if sSt σ (kd σ p k) 10 = -1 then (if sAl σ (kd σ p k) = 3 then (zpos (sIn W (sSt σ p 5) - 2 * sSt σ (kd σ p k) 6)) else (if nw (kd σ p k) < (zpos (sIn W (sSt σ p 5) - 2 * sSt σ (kd σ p k) 6)) then nw (kd σ p k) else (zpos (sIn W (sSt σ p 5) - 2 * sSt σ (kd σ p k) 6)))) else sSt σ (kd σ p k) 10)) rfl (z_lt hC (by decide)) rfl zkX6_limited zm_4_232 ⟨rfl, rfl⟩ rfl rfl hRm ⟨Nat.le_of_ble_eq_true rfl, Nat.le_of_ble_eq_true rfl⟩ (Nat.le_of_ble_eq_true rfl) ⟨Nat.zero_le _, Nat.zero_le _⟩ dX6_findColumnWidths_106 ?_
              refine z_isN (pc := 109) hC (2 * (kd σ p k) + 0) rfl (z_lt hC (by decide)) (zix2z (kd σ p k)) (by omega) (by decide) dX6_findColumnWidths_109 ?_
              refine z_aload_n (pc := 110) hC 5 dX6_findColumnWidths_110 rfl rfl z_isr_r ?_
              refine z_gF (pc := 111) hC 6 10 (t := 104) rfl (z_lt hC (by decide)) rfl inX6 (by decide) rfl zm_4_83 rfl dX6_findColumnWidths_111 ?_
              refine z_iload_n (pc := 114) hC 3 dX6_findColumnWidths_114 rfl rfl ?_
              refine z_iload_n (pc := 115) hC 4 dX6_findColumnWidths_115 rfl rfl ?_
              refine z_isN (pc := 116) hC (kd σ p k) rfl (z_lt hC (by decide)) rfl hk40 (by decide) dX6_findColumnWidths_116 ?_
              refine z_iinc (pc := 117) (v := nI (k + 1)) (lv' := [(2, .int (nI (k + 1))), (6, .int (if sSt σ (kd σ p k) 10 = -1 then (if sAl σ (kd σ p k) = 3 then (zpos (sIn W (sSt σ p 5) - 2 * sSt σ (kd σ p k) 6)) else (if nw (kd σ p k) < (zpos (sIn W (sSt σ p 5) - 2 * sSt σ (kd σ p k) 6)) then nw (kd σ p k) else (zpos (sIn W (sSt σ p 5) - 2 * sSt σ (kd σ p k) 6)))) else sSt σ (kd σ p k) 10)), (5, .int (nw (kd σ p k))), (4, .int (zpos ((sIn W (sSt σ p 5)) - (2 * (sSt σ (kd σ p k) 6))))), (3, .int (nI (kd σ p k))), (0, .ref (g.1 95)), (1, .int (nI p))]) hC 4 dX6_findColumnWidths_117 rfl (nI_1 k) (by decide) rfl ?_
              refine z_goto (pc := 120) (tgt := 2) hC dX6_findColumnWidths_120 (by decide) ?_
              refine z_lvs (lv' := [(2, .int (nI (k + 1))), (0, .ref (g.1 95)), (1, .int (nI p))]) [0, 5, 6] rfl ?_
              exact ih (k + 1) _ (by omega) (zcw_s hkn hz (by unfold sKW sCoW; rw [if_pos hcol]) (by rw [sLn_col hcol])) (by omega)
        · skip
          refine z_aload_n (pc := 59) hC 4 dX6_findColumnWidths_59 rfl rfl z_isr_r ?_
          refine z_iload_n (pc := 60) hC 2 dX6_findColumnWidths_60 rfl rfl ?_
          refine z_bipush (pc := 61) (v := 10) hC dX6_findColumnWidths_61 rfl ?_
          refine z_cV (pc := 63) (st := []) hC [.int (nI (kd σ p k)), .int 10] (kX6_of C.2.1 g N Ir P J hmr (kd σ p k) 10 (sKids_lt hm.1 (kd_mem hkn)).2.2.1 (by decide) 10 rfl) rfl (z_lt hC (by decide)) rfl zkX6_of zm_4_162 ⟨rfl, rfl⟩ rfl rfl hRm ⟨Nat.le_of_ble_eq_true rfl, Nat.le_of_ble_eq_true rfl⟩ (Nat.le_of_ble_eq_true rfl) ⟨Nat.zero_le _, Nat.zero_le _⟩ dX6_findColumnWidths_63 ?_
          refine z_goto (pc := 66) (tgt := 92) hC dX6_findColumnWidths_66 (by decide) ?_
          refine z_eqI (show sSt σ (kd σ p k) 10 = (if sSt σ (kd σ p k) 10 = -1 then (if sAl σ (kd σ p k) = 3 then (zpos (sIn W (sSt σ p 5) - 2 * sSt σ (kd σ p k) 6)) else (if nw (kd σ p k) < (zpos (sIn W (sSt σ p 5) - 2 * sSt σ (kd σ p k) 6)) then nw (kd σ p k) else (zpos (sIn W (sSt σ p 5) - 2 * sSt σ (kd σ p k) 6)))) else sSt σ (kd σ p k) 10) from by rw [if_neg h56]) ?_
          refine z_istore (pc := 92) (lv' := [(6, .int (if sSt σ (kd σ p k) 10 = -1 then (if sAl σ (kd σ p k) = 3 then (zpos (sIn W (sSt σ p 5) - 2 * sSt σ (kd σ p k) 6)) else (if nw (kd σ p k) < (zpos (sIn W (sSt σ p 5) - 2 * sSt σ (kd σ p k) 6)) then nw (kd σ p k) else (zpos (sIn W (sSt σ p 5) - 2 * sSt σ (kd σ p k) 6)))) else sSt σ (kd σ p k) 10)), (5, .int (nw (kd σ p k))), (4, .int (zpos ((sIn W (sSt σ p 5)) - (2 * (sSt σ (kd σ p k) 6))))), (3, .int (nI (kd σ p k))), (2, .int (nI k)), (0, .ref (g.1 95)), (1, .int (nI p))]) hC dX6_findColumnWidths_92 (by decide) rfl ?_
          refine z_aload_n (pc := 94) hC 5 dX6_findColumnWidths_94 rfl rfl z_isr_r ?_
          refine z_gF (pc := 95) hC 6 8 (t := 102) rfl (z_lt hC (by decide)) rfl inX6 (by decide) rfl zm_4_81 rfl dX6_findColumnWidths_95 ?_
          refine z_iconst (pc := 98) (v := 2) hC dX6_findColumnWidths_98 rfl ?_
          refine z_iload_n (pc := 99) hC 3 dX6_findColumnWidths_99 rfl rfl ?_
          refine z_imul (pc := 100) hC dX6_findColumnWidths_100 ?_
          refine z_aload_n (pc := 101) hC 5 dX6_findColumnWidths_101 rfl rfl z_isr_r ?_
          refine z_iload_n (pc := 102) hC 3 dX6_findColumnWidths_102 rfl rfl ?_
          refine z_iconst (pc := 103) (v := 0) hC dX6_findColumnWidths_103 rfl ?_
          refine z_iload (pc := 104) hC 0 dX6_findColumnWidths_104 rfl ?_
          refine z_cV (pc := 106) (st := [.int (2 * (nI (kd σ p k))), .ref (g.1 102)]) hC [.int (nI (kd σ p k)), .int 0, .int (if sSt σ (kd σ p k) 10 = -1 then (if sAl σ (kd σ p k) = 3 then (zpos (sIn W (sSt σ p 5) - 2 * sSt σ (kd σ p k) 6)) else (if nw (kd σ p k) < (zpos (sIn W (sSt σ p 5) - 2 * sSt σ (kd σ p k) 6)) then nw (kd σ p k) else (zpos (sIn W (sSt σ p 5) - 2 * sSt σ (kd σ p k) 6)))) else sSt σ (kd σ p k) 10)] (kX6_limited C.2.1 g N Ir P J hmr (kd σ p k) 0 (sKids_lt hm.1 (kd_mem hkn)).2.2.1 (by decide) (if sSt σ (kd σ p k) 10 = -1 then (if sAl σ (kd σ p k) = 3 then (zpos (sIn W (sSt σ p 5) - 2 * sSt σ (kd σ p k) 6)) else (if nw (kd σ p k) < (zpos (sIn W (sSt σ p 5) - 2 * sSt σ (kd σ p k) 6)) then nw (kd σ p k) else (zpos (sIn W (sSt σ p 5) - 2 * sSt σ (kd σ p k) 6)))) else sSt σ (kd σ p k) 10)) rfl (z_lt hC (by decide)) rfl zkX6_limited zm_4_232 ⟨rfl, rfl⟩ rfl rfl hRm ⟨Nat.le_of_ble_eq_true rfl, Nat.le_of_ble_eq_true rfl⟩ (Nat.le_of_ble_eq_true rfl) ⟨Nat.zero_le _, Nat.zero_le _⟩ dX6_findColumnWidths_106 ?_
          refine z_isN (pc := 109) hC (2 * (kd σ p k) + 0) rfl (z_lt hC (by decide)) (zix2z (kd σ p k)) (by omega) (by decide) dX6_findColumnWidths_109 ?_
          refine z_aload_n (pc := 110) hC 5 dX6_findColumnWidths_110 rfl rfl z_isr_r ?_
          refine z_gF (pc := 111) hC 6 10 (t := 104) rfl (z_lt hC (by decide)) rfl inX6 (by decide) rfl zm_4_83 rfl dX6_findColumnWidths_111 ?_
          refine z_iload_n (pc := 114) hC 3 dX6_findColumnWidths_114 rfl rfl ?_
          refine z_iload_n (pc := 115) hC 4 dX6_findColumnWidths_115 rfl rfl ?_
          refine z_isN (pc := 116) hC (kd σ p k) rfl (z_lt hC (by decide)) rfl hk40 (by decide) dX6_findColumnWidths_116 ?_
          refine z_iinc (pc := 117) (v := nI (k + 1)) (lv' := [(2, .int (nI (k + 1))), (6, .int (if sSt σ (kd σ p k) 10 = -1 then (if sAl σ (kd σ p k) = 3 then (zpos (sIn W (sSt σ p 5) - 2 * sSt σ (kd σ p k) 6)) else (if nw (kd σ p k) < (zpos (sIn W (sSt σ p 5) - 2 * sSt σ (kd σ p k) 6)) then nw (kd σ p k) else (zpos (sIn W (sSt σ p 5) - 2 * sSt σ (kd σ p k) 6)))) else sSt σ (kd σ p k) 10)), (5, .int (nw (kd σ p k))), (4, .int (zpos ((sIn W (sSt σ p 5)) - (2 * (sSt σ (kd σ p k) 6))))), (3, .int (nI (kd σ p k))), (0, .ref (g.1 95)), (1, .int (nI p))]) hC 4 dX6_findColumnWidths_117 rfl (nI_1 k) (by decide) rfl ?_
          refine z_goto (pc := 120) (tgt := 2) hC dX6_findColumnWidths_120 (by decide) ?_
          refine z_lvs (lv' := [(2, .int (nI (k + 1))), (0, .ref (g.1 95)), (1, .int (nI p))]) [0, 5, 6] rfl ?_
          exact ih (k + 1) _ (by omega) (zcw_s hkn hz (by unfold sKW sCoW; rw [if_pos hcol]) (by rw [sLn_col hcol])) (by omega)
  exact L2 41 0 I (Nat.zero_le _) zcw_0 (by have := kn_le hm.1 p; omega)
end ZM7
