section ZM25
theorem nI_2000 {k : Nat} (h : k ≤ 2000) : 0 ≤ nI k ∧ nI k ≤ 2000 := by
  rw [zi_le, zi_le, nI_toInt (by omega)]
  have e0 : (0 : Int32).toInt = 0 := rfl
  have e1 : (2000 : Int32).toInt = 2000 := rfl
  omega
theorem zMd_vp1 {σ : zS} {I : Nat → Nat → Int32} (h : zMd σ (z_u I 96 1 (sVw σ))) {k : Nat} (hk : k ≤ 2000) : zMd (sVp σ (nI k) (sVh σ)) (z_u I 96 1 (nI k)) := by
  have hv : 0 ≤ sVh σ ∧ sVh σ ≤ 2000 := h.1.2.2.2.2.2.2.2
  have e2 : I 96 2 = sVh σ := (z_u_b I _ (by decide)).symm.trans h.2.2.2.1
  refine (zMd_vp h (nI_2000 hk) hv).eq (fun j => ?_)
  by_cases j2 : j = 2
  · subst j2
    rw [z_u_s, z_u_b _ _ (by decide)]
    exact e2
  · rw [z_u_b _ _ j2]
    by_cases j1 : j = 1
    · subst j1
      rw [z_u_s, z_u_s]
    · rw [z_u_b _ _ j1, z_u_b _ _ j1, z_u_b _ _ j1]
theorem zMd_vp2 {σ : zS} {I I4 : Nat → Nat → Int32} {w : Int32} (h : zMd σ (z_u I 96 1 (sVw σ))) (e : ∀ j, I4 96 j = z_u I 96 1 w 96 j) : zMd σ (z_u I4 96 1 (sVw σ)) := h.eq (fun j => by
  by_cases j1 : j = 1
  · subst j1
    rw [z_u_s, z_u_s]
  · rw [z_u_b _ _ j1, z_u_b _ _ j1, e, z_u_b _ _ j1])
theorem zMd_vp0 {σ : zS} {I : Nat → Nat → Int32} (h : zMd σ I) : zMd σ (z_u I 96 1 (sVw σ)) := h.eq (fun j => by
  by_cases j1 : j = 1
  · subst j1
    rw [z_u_s]
    exact h.2.2.1.symm
  · rw [z_u_b _ _ j1])
/-- the search is at the width k -/
def zwq (σ : zS) (b : Nat) (n : Int32) (k : Nat) (f : Int32) : Prop := (f = -1 ∧ sWf σ b n = zfind (fun v => decide (sLC σ (sNW σ) b (sWv σ (nI v) b) ≤ n)) (2001 - k) k) ∨ (¬ f < 0 ∧ f = sWf σ b n)
theorem zwq_0 {σ : zS} {b : Nat} {n : Int32} : zwq σ b n 0 (-1) := Or.inl ⟨rfl, rfl⟩
theorem zwq_st {σ : zS} {b : Nat} {n : Int32} {k : Nat} {f : Int32} (hk : k ≤ 2000) (hf : f < 0) (h : zwq σ b n k f) : sWf σ b n = if decide (sLC σ (sNW σ) b (sWv σ (nI k) b) ≤ n) = true then nI k else zfind (fun v => decide (sLC σ (sNW σ) b (sWv σ (nI v) b) ≤ n)) (2001 - (k + 1)) (k + 1) := by
  rcases h with ⟨_, e⟩ | ⟨e, _⟩
  · rw [e, show 2001 - k = (2001 - (k + 1)) + 1 by omega]
    rfl
  · exact absurd hf e
theorem zwq_t {σ : zS} {b : Nat} {n : Int32} {k : Nat} {f : Int32} (hk : k ≤ 2000) (hf : f < 0) (h : zwq σ b n k f) (hl : sLC σ (sNW σ) b (sWv σ (nI k) b) ≤ n) : zwq σ b n (k + 1) (nI k) := by
  have e := zwq_st hk hf h
  rw [decide_eq_true hl, if_pos rfl] at e
  exact Or.inr ⟨Int32.not_lt.mpr (nI_2000 hk).1, e.symm⟩
theorem zwq_f {σ : zS} {b : Nat} {n : Int32} {k : Nat} {f : Int32} (hk : k ≤ 2000) (hf : f < 0) (h : zwq σ b n k f) (hl : ¬ sLC σ (sNW σ) b (sWv σ (nI k) b) ≤ n) : zwq σ b n (k + 1) (-1) := by
  have e := zwq_st hk hf h
  rw [decide_eq_false hl, if_neg (by decide)] at e
  exact Or.inl ⟨rfl, e⟩
theorem zwq_e {σ : zS} {b : Nat} {n : Int32} {k : Nat} {f : Int32} (hk : 2001 ≤ k) (h : zwq σ b n k f) : f = sWf σ b n := by
  rcases h with ⟨e, q⟩ | ⟨_, e⟩
  · rw [e, q, show 2001 - k = 0 by omega]
    rfl
  · exact e
theorem zwq_p {σ : zS} {b : Nat} {n : Int32} {k : Nat} {f : Int32} (hf : ¬ f < 0) (h : zwq σ b n k f) : f = sWf σ b n := by
  rcases h with ⟨e, q⟩ | ⟨_, e⟩
  · exact absurd (by rw [e]; decide) hf
  · exact e
set_option maxHeartbeats 4000000 in
set_option maxRecDepth 100000 in
theorem kX6_widthFor (lx : Launch) (g : zG) (N : Nat) (I : Nat → Nat → Int32) (P : Nat → Nat → Option Nat) (J : Nat → Nat → Int64) {σ : zS} (hm : zMd σ I) (x n : Int32) : z_Ct lx yX6_widthFor (zT yX6_widthFor cX6_widthFor 6 (Option.some FieldType.int)) ({ frames := 7, cells := 0, slots := 0, locals := 175 } : Room) g N I P J [.ref (g.1 95), .int x, .int n] (fun v I' P' J' => ((zbx σ x = false ∧ I' 95 3 = 1) ∨ ((zbx σ x = true ∧ ¬ (0 ≤ n ∧ n ≤ 100) ∧ I' 95 3 = 2) ∨ ∃ b, x = nI b ∧ b < 40 ∧ sEx σ b = true ∧ (0 ≤ n ∧ n ≤ 100) ∧ ((sSh σ b = false ∧ I' 95 3 = 3) ∨ (sSh σ b = true ∧ v = some (.int (sWf σ b n)) ∧ I' 95 3 = 0)))) ∧ zMd σ I' ∧ zKm I P J I' P' J') 0 0 := by
  refine z_of (by decide) (Nat.le_of_ble_eq_true rfl) (lv0 := [(0, .ref (g.1 95)), (1, .int x), (2, .int n)]) rfl ?_
  intro C hlx hC hE hRm
  have hC : zX C cX6_widthFor 6 RX6 (zT yX6_widthFor cX6_widthFor 6 (Option.some FieldType.int)) g N := hC
  refine z_aload_n (pc := 0) hC 0 dX6_widthFor_0 rfl rfl z_isr_r ?_
  refine z_aload_n (pc := 1) hC 0 dX6_widthFor_1 rfl rfl z_isr_r ?_
  refine z_iload_n (pc := 2) hC 1 dX6_widthFor_2 rfl rfl ?_
  refine z_cV (pc := 3) (st := [.ref (g.1 95)]) hC [.int x] (kX6_isBox C.2.1 g N I P J hm x) rfl (z_lt hC (by decide)) rfl zkX6_isBox zm_4_131 ⟨rfl, rfl⟩ rfl rfl hRm ⟨Nat.le_of_ble_eq_true rfl, Nat.le_of_ble_eq_true rfl⟩ (Nat.le_of_ble_eq_true rfl) ⟨Nat.zero_le _, Nat.zero_le _⟩ dX6_widthFor_3 ?_
  refine z_if_ne (pc := 6) (tgt := 13) hC dX6_widthFor_6 (by decide) (fun h6 => ?_) (fun h6 => ?_)
  · skip
    have g6 := zB_t h6
    obtain ⟨b, rfl, hb, he⟩ := zbx_iff.mp g6
    refine z_iload_n (pc := 13) hC 2 dX6_widthFor_13 rfl rfl ?_
    refine z_iconst (pc := 14) (v := 0) hC dX6_widthFor_14 rfl ?_
    refine z_bipush (pc := 15) (v := 100) hC dX6_widthFor_15 rfl ?_
    refine z_cS (pc := 17) (st := [.ref (g.1 95)]) hC [.int n, .int 0, .int 100] (kX6_in C.2.1 g N I P J n 0 100) zkX6_in zm_4_135 ⟨rfl, rfl⟩ rfl rfl hRm ⟨Nat.le_of_ble_eq_true rfl, Nat.le_of_ble_eq_true rfl⟩ (Nat.le_of_ble_eq_true rfl) ⟨Nat.zero_le _, Nat.zero_le _⟩ dX6_widthFor_17 ?_
    refine z_if_ne (pc := 20) (tgt := 27) hC dX6_widthFor_20 (by decide) (fun h20 => ?_) (fun h20 => ?_)
    · skip
      have g20 := zB_t h20
      refine z_iconst (pc := 27) (v := 0) hC dX6_widthFor_27 rfl ?_
      refine z_pI (pc := 28) hC 6 3 rfl (z_lt hC (by decide)) rfl inX6 tyX6_ok nmX6 (by decide) rfl zm_4_76 rfl rfl rfl dX6_widthFor_28 ?_
      refine z_aload_n (pc := 31) hC 0 dX6_widthFor_31 rfl rfl z_isr_r ?_
      refine z_gI (pc := 32) hC 6 3 (x := 0) rfl (z_lt hC (by decide)) rfl inX6 (by decide) rfl zm_4_76 (z_u_s _ _ _ _) dX6_widthFor_32 ?_
      refine z_if_ne (pc := 35) (tgt := 60) hC dX6_widthFor_35 (by decide) (fun h35 => ?_) (fun h35 => ?_)
      · skip
        exact absurd h35 (by decide)
      · skip
        refine z_aload_n (pc := 38) hC 0 dX6_widthFor_38 rfl rfl z_isr_r ?_
        refine z_callV (pc := 39) (st := []) hC [] (kX6_findShown C.2.1 g N (z_u I 95 3 0) P J (hm.u (by decide))) rfl (z_lt hC (by decide)) rfl zkX6_findShown zm_4_200 ⟨rfl, rfl⟩ rfl rfl hRm ⟨Nat.le_of_ble_eq_true rfl, Nat.le_of_ble_eq_true rfl⟩ (Nat.le_of_ble_eq_true rfl) ⟨Nat.zero_le _, Nat.zero_le _⟩ dX6_widthFor_39 ?_
        intro v42 I42 P42 J42 hq
        obtain ⟨hv, hP, hJ, h1⟩ := hq
        subst hv
        rw [hP, hJ]
        have hm2 := (hm.u (i := 95) (k := 3) (v := 0) (by decide)).eq (fun k => h1.1 96 k (by decide))
        have hk2 := (zKm.rf (I := I) (P := P) (J := J)).u (i := 95) (k := 3) (v := 0) (by decide) |>.sh h1
        show zJ C g N 6 0 0 I42 P J 42 [(0, .ref (g.1 95)), (1, .int (nI b)), (2, .int n)] []
        refine z_aload_n (pc := 42) hC 0 dX6_widthFor_42 rfl rfl z_isr_r ?_
        refine z_aload_n (pc := 43) hC 0 dX6_widthFor_43 rfl rfl z_isr_r ?_
        refine z_gF (pc := 44) hC 6 6 (t := 100) rfl (z_lt hC (by decide)) rfl inX6 (by decide) rfl zm_4_79 rfl dX6_widthFor_44 ?_
        refine z_iload_n (pc := 47) hC 1 dX6_widthFor_47 rfl rfl ?_
        refine z_zaN (pc := 48) hC b (x := zB (sSh σ b)) rfl (z_lt hC (by decide)) rfl hb (by decide) (h1.2 b (hm.lt he).1) dX6_widthFor_48 ?_
        refine z_if_eq (pc := 49) (tgt := 56) hC dX6_widthFor_49 (by decide) (fun h49 => ?_) (fun h49 => ?_)
        · skip
          have g49 := zB_f h49
          refine z_iconst (pc := 56) (v := 3) hC dX6_widthFor_56 rfl ?_
          refine z_pI (pc := 57) hC 6 3 rfl (z_lt hC (by decide)) rfl inX6 tyX6_ok nmX6 (by decide) rfl zm_4_76 rfl rfl rfl dX6_widthFor_57 ?_
          refine z_aload_n (pc := 60) hC 0 dX6_widthFor_60 rfl rfl z_isr_r ?_
          refine z_gI (pc := 61) hC 6 3 (x := 3) rfl (z_lt hC (by decide)) rfl inX6 (by decide) rfl zm_4_76 (z_u_s _ _ _ _) dX6_widthFor_61 ?_
          refine z_if_eq (pc := 64) (tgt := 69) hC dX6_widthFor_64 (by decide) (fun h64 => ?_) (fun h64 => ?_)
          · skip
            exact absurd h64 (by decide)
          · skip
            refine z_iconst (pc := 67) (v := 0) hC dX6_widthFor_67 rfl ?_
            exact z_iret (pc := 68) hC hE dX6_widthFor_68 ⟨Or.inr (Or.inr ⟨b, rfl, hb, he, of_decide_eq_true g20, Or.inl ⟨g49, z_u_s _ _ _ _⟩⟩), hm2.u (by decide), hk2.u (by decide)⟩
        · skip
          have g49 := zB_t h49
          refine z_iconst (pc := 52) (v := 0) hC dX6_widthFor_52 rfl ?_
          refine z_goto (pc := 53) (tgt := 57) hC dX6_widthFor_53 (by decide) ?_
          refine z_pI (pc := 57) hC 6 3 rfl (z_lt hC (by decide)) rfl inX6 tyX6_ok nmX6 (by decide) rfl zm_4_76 rfl rfl rfl dX6_widthFor_57 ?_
          refine z_aload_n (pc := 60) hC 0 dX6_widthFor_60 rfl rfl z_isr_r ?_
          refine z_gI (pc := 61) hC 6 3 (x := 0) rfl (z_lt hC (by decide)) rfl inX6 (by decide) rfl zm_4_76 (z_u_s _ _ _ _) dX6_widthFor_61 ?_
          refine z_if_eq (pc := 64) (tgt := 69) hC dX6_widthFor_64 (by decide) (fun h64 => ?_) (fun h64 => ?_)
          · skip
            refine z_aload_n (pc := 69) hC 0 dX6_widthFor_69 rfl rfl z_isr_r ?_
            refine z_gF (pc := 70) hC 6 0 (t := 96) rfl (z_lt hC (by decide)) rfl inX6 (by decide) rfl zm_4_73 rfl dX6_widthFor_70 ?_
            refine z_iconst (pc := 73) (v := 1) hC dX6_widthFor_73 rfl ?_
            refine z_iaN (pc := 74) hC 1 (x := sVw σ) rfl (z_lt hC (by decide)) rfl (by decide) (by decide) ((z_u_a _ _ (by decide)).trans hm2.2.2.1) dX6_widthFor_74 ?_
            refine z_istore_n (pc := 75) (lv' := [(3, .int (sVw σ)), (0, .ref (g.1 95)), (1, .int (nI b)), (2, .int n)]) hC dX6_widthFor_75 rfl (by decide) rfl ?_
            refine z_iconst (pc := 76) (v := (-1)) hC dX6_widthFor_76 rfl ?_
            refine z_istore (pc := 77) (lv' := [(4, .int (-1)), (3, .int (sVw σ)), (0, .ref (g.1 95)), (1, .int (nI b)), (2, .int n)]) hC dX6_widthFor_77 (by decide) rfl ?_
            refine z_aload_n (pc := 79) hC 2 dX6_widthFor_79 rfl rfl z_isr_r ?_
            refine z_callV (pc := 80) (st := []) hC [] (kX6_findNaturalWidths C.2.1 g N (z_u I42 95 3 0) P J (hm2.u (by decide)) (fun c hc => (z_u_a _ _ (by decide)).trans (h1.2 c hc))) rfl (z_lt hC (by decide)) rfl zkX6_findNaturalWidths zm_4_208 ⟨rfl, rfl⟩ rfl rfl hRm ⟨Nat.le_of_ble_eq_true rfl, Nat.le_of_ble_eq_true rfl⟩ (Nat.le_of_ble_eq_true rfl) ⟨Nat.zero_le _, Nat.zero_le _⟩ dX6_widthFor_80 ?_
            intro v I5 P5 J5 hq
            obtain ⟨hv, hP, hJ, hna⟩ := hq
            subst hv
            rw [hP, hJ]
            have f5 : ∀ q j, q ≠ 99 → q ≠ 101 → q ≠ 95 → I5 q j = I42 q j := fun q j k1 k2 k3 => (hna.1 q j k1 (by omega) (by omega)).trans (z_u_a _ _ k3)
            have hm6 := hm2.eq (fun k => f5 96 k (by decide) (by decide) (by decide))
            have h956 : I5 95 3 = 0 := (hna.1 95 3 (by decide) (by omega) (by omega)).trans (z_u_s _ _ _ _)
            show zJ C g N 6 0 0 I5 P J 83 [(4, .int (-1)), (3, .int (sVw σ)), (0, .ref (g.1 95)), (1, .int (nI b)), (2, .int n)] []
            refine z_iconst (pc := 83) (v := 0) hC dX6_widthFor_83 rfl ?_
            refine z_istore (pc := 84) (lv' := [(5, .int 0), (4, .int (-1)), (3, .int (sVw σ)), (0, .ref (g.1 95)), (1, .int (nI b)), (2, .int n)]) hC dX6_widthFor_84 (by decide) rfl ?_
            have L86 : ∀ (zf : Nat) (k : Nat) (f : Int32) (Ik : Nat → Nat → Int32) (Jk : Nat → Nat → Int64) (hkk : k ≤ 2001) (hq5 : zwq σ b n k f) (hmz : zMd σ (z_u Ik 96 1 (sVw σ))) (h100 : ∀ c, c < sGv σ → Ik 100 c = zB (sSh σ c)) (h101 : ∀ b, sSh σ b = true → Ik 101 (2 * b + 0) = sNW σ b) (h95 : Ik 95 3 = 0) (hkm : zKm I P J Ik P Jk), 2001 - k < zf → zJ C g N 6 0 0 Ik P Jk 86 [(5, .int (nI k)), (4, .int f), (3, .int (sVw σ)), (0, .ref (g.1 95)), (1, .int (nI b)), (2, .int n)] [] := by
              intro zf
              induction zf with
              | zero =>
                intro k f Ik Jk hkk hq5 hmz h100 h101 h95 hkm hn2
                exact absurd hn2 (Nat.not_lt_zero _)
              | succ zf ih =>
                intro k f Ik Jk hkk hq5 hmz h100 h101 h95 hkm hn2
                refine z_iload (pc := 86) hC 0 dX6_widthFor_86 rfl ?_
                refine z_sipush (pc := 88) (v := 2000) hC dX6_widthFor_88 rfl ?_
                refine z_icmp_gt (pc := 91) (tgt := 135) hC dX6_widthFor_91 (by decide) (fun h91 => ?_) (fun h91 => ?_)
                · skip
                  have g91 := Int32.not_le.mpr h91
                  have hk21 : 2001 ≤ k := Nat.lt_of_not_le (fun q => absurd (nI_2000 q).2 (Int32.not_le.mpr h91))
                  refine z_aload_n (pc := 135) hC 3 dX6_widthFor_135 rfl rfl z_isr_r ?_
                  refine z_gF (pc := 136) hC 6 0 (t := 96) rfl (z_lt hC (by decide)) rfl inX6 (by decide) rfl zm_4_73 rfl dX6_widthFor_136 ?_
                  refine z_iconst (pc := 139) (v := 1) hC dX6_widthFor_139 rfl ?_
                  refine z_iload_n (pc := 140) hC 2 dX6_widthFor_140 rfl rfl ?_
                  refine z_isN (pc := 141) hC 1 rfl (z_lt hC (by decide)) rfl (by decide) (by decide) dX6_widthFor_141 ?_
                  refine z_iload (pc := 142) hC 1 dX6_widthFor_142 rfl ?_
                  exact z_iret (pc := 144) hC hE dX6_widthFor_144 ⟨Or.inr (Or.inr ⟨b, rfl, hb, he, of_decide_eq_true g20, Or.inr ⟨g49, congrArg (fun y => some (Value.int y)) (zwq_e hk21 hq5), (z_u_a _ _ (by decide)).trans h95⟩⟩), hmz, hkm.u (by decide)⟩
                · skip
                  have g91 := Int32.not_lt.mp h91
                  have hk20 : k ≤ 2000 := zc_ge (i := 2000) (n := k) g91 (by decide) (by omega)
                  refine z_iload (pc := 94) hC 1 dX6_widthFor_94 rfl ?_
                  refine z_if_ge (pc := 96) (tgt := 135) hC dX6_widthFor_96 (by decide) (fun h96 => ?_) (fun h96 => ?_)
                  · skip
                    have g96 := Int32.not_lt.mpr h96
                    refine z_aload_n (pc := 135) hC 3 dX6_widthFor_135 rfl rfl z_isr_r ?_
                    refine z_gF (pc := 136) hC 6 0 (t := 96) rfl (z_lt hC (by decide)) rfl inX6 (by decide) rfl zm_4_73 rfl dX6_widthFor_136 ?_
                    refine z_iconst (pc := 139) (v := 1) hC dX6_widthFor_139 rfl ?_
                    refine z_iload_n (pc := 140) hC 2 dX6_widthFor_140 rfl rfl ?_
                    refine z_isN (pc := 141) hC 1 rfl (z_lt hC (by decide)) rfl (by decide) (by decide) dX6_widthFor_141 ?_
                    refine z_iload (pc := 142) hC 1 dX6_widthFor_142 rfl ?_
                    exact z_iret (pc := 144) hC hE dX6_widthFor_144 ⟨Or.inr (Or.inr ⟨b, rfl, hb, he, of_decide_eq_true g20, Or.inr ⟨g49, congrArg (fun y => some (Value.int y)) (zwq_p g96 hq5), (z_u_a _ _ (by decide)).trans h95⟩⟩), hmz, hkm.u (by decide)⟩
                  · skip
                    have g96 := Int32.not_le.mp h96
                    have hm5 := zMd_vp1 hmz hk20
                    refine z_aload_n (pc := 99) hC 3 dX6_widthFor_99 rfl rfl z_isr_r ?_
                    refine z_gF (pc := 100) hC 6 0 (t := 96) rfl (z_lt hC (by decide)) rfl inX6 (by decide) rfl zm_4_73 rfl dX6_widthFor_100 ?_
                    refine z_iconst (pc := 103) (v := 1) hC dX6_widthFor_103 rfl ?_
                    refine z_iload (pc := 104) hC 0 dX6_widthFor_104 rfl ?_
                    refine z_isN (pc := 106) hC 1 rfl (z_lt hC (by decide)) rfl (by decide) (by decide) dX6_widthFor_106 ?_
                    refine z_aload_n (pc := 107) hC 3 dX6_widthFor_107 rfl rfl z_isr_r ?_
                    refine z_callV (pc := 108) (st := []) hC [] (kX6_findWidths C.2.1 g N (z_u Ik 96 1 (nI k)) P Jk (σ := (sVp σ (nI k) (sVh σ))) hm5 (fun c hc => (z_u_a _ _ (by decide)).trans ((h100 c hc).trans (congrArg zB (sVp_sh c).symm))) (fun c hc => (z_u_a _ _ (by decide)).trans ((h101 c ((sVp_sh c).symm.trans hc)).trans (congrFun sVp_NW c).symm))) rfl (z_lt hC (by decide)) rfl zkX6_findWidths zm_4_236 ⟨rfl, rfl⟩ rfl rfl hRm ⟨Nat.le_of_ble_eq_true rfl, Nat.le_of_ble_eq_true rfl⟩ (Nat.le_of_ble_eq_true rfl) ⟨Nat.zero_le _, Nat.zero_le _⟩ dX6_widthFor_108 ?_
                    intro v I4 P4 J4 hq
                    obtain ⟨hv, hP, hw4⟩ := hq
                    subst hv
                    rw [hP]
                    have hwl : I4 105 b = sLC σ (sNW σ) b (sWv σ (nI k) b) := by
                      have q := (zwd_WD hm5.1 hw4).2.1 b ((sVp_sh b).trans g49)
                      rw [q, sVp_NW, sVp_LC, sVp_WD]
                    have hm4z : zMd σ (z_u I4 96 1 (sVw σ)) := zMd_vp2 hmz (fun j => hw4.1 96 j (by decide) (by decide) (by decide) (by decide) (by decide) (by decide) (by omega))
                    have f4 : ∀ q j, q ≠ 99 → q ≠ 102 → q ≠ 104 → q ≠ 105 → q ≠ 106 → q ≠ 108 → q ≠ 96 → ¬ (q = 95 ∧ j = 5) → I4 q j = Ik q j := fun q j k1 k2 k3 k4 k5 k6 k7 k8 => (hw4.1 q j k1 k2 k3 k4 k5 k6 k8).trans (z_u_a _ _ k7)
                    have hkm4 : zKm I P J I4 P J4 := ⟨hkm.1, fun q j hq => (hw4.2.1 q j hq).trans (hkm.2.1 q j hq), fun q j hq => (f4 q j (by omega) (by omega) (by omega) (by omega) (by omega) (by omega) (by omega) (by omega)).trans (hkm.2.2 q j hq)⟩
                    show zJ C g N 6 0 0 I4 P J4 111 [(5, .int (nI k)), (4, .int f), (3, .int (sVw σ)), (0, .ref (g.1 95)), (1, .int (nI b)), (2, .int n)] []
                    refine z_aload_n (pc := 111) hC 3 dX6_widthFor_111 rfl rfl z_isr_r ?_
                    refine z_gF (pc := 112) hC 6 11 (t := 105) rfl (z_lt hC (by decide)) rfl inX6 (by decide) rfl zm_4_84 rfl dX6_widthFor_112 ?_
                    refine z_iload_n (pc := 115) hC 4 dX6_widthFor_115 rfl rfl ?_
                    refine z_iaN (pc := 116) hC b (x := sLC σ (sNW σ) b (sWv σ (nI k) b)) rfl (z_lt hC (by decide)) rfl hb (by decide) hwl dX6_widthFor_116 ?_
                    refine z_iload_n (pc := 117) hC 5 dX6_widthFor_117 rfl rfl ?_
                    refine z_icmp_gt (pc := 118) (tgt := 126) hC dX6_widthFor_118 (by decide) (fun h118 => ?_) (fun h118 => ?_)
                    · skip
                      have g118 := Int32.not_le.mpr h118
                      refine z_iconst (pc := 126) (v := (-1)) hC dX6_widthFor_126 rfl ?_
                      refine z_istore (pc := 127) (lv' := [(4, .int (-1)), (5, .int (nI k)), (3, .int (sVw σ)), (0, .ref (g.1 95)), (1, .int (nI b)), (2, .int n)]) hC dX6_widthFor_127 (by decide) rfl ?_
                      refine z_iinc (pc := 129) (v := nI (k + 1)) (lv' := [(5, .int (nI (k + 1))), (4, .int (-1)), (3, .int (sVw σ)), (0, .ref (g.1 95)), (1, .int (nI b)), (2, .int n)]) hC 1 dX6_widthFor_129 rfl (nI_1 k) (by decide) rfl ?_
                      refine z_goto (pc := 132) (tgt := 86) hC dX6_widthFor_132 (by decide) ?_
                      exact ih (k + 1) (-1) I4 J4 (by omega) (zwq_f hk20 g96 hq5 g118) hm4z (fun c hc => (f4 100 c (by decide) (by decide) (by decide) (by decide) (by decide) (by decide) (by decide) (by omega)).trans (h100 c hc)) (fun c hc => (f4 101 _ (by decide) (by decide) (by decide) (by decide) (by decide) (by decide) (by decide) (by omega)).trans (h101 c hc)) ((f4 95 3 (by decide) (by decide) (by decide) (by decide) (by decide) (by decide) (by decide) (by omega)).trans h95) hkm4 (by omega)
                    · skip
                      have g118 := Int32.not_lt.mp h118
                      refine z_iload (pc := 121) hC 0 dX6_widthFor_121 rfl ?_
                      refine z_goto (pc := 123) (tgt := 127) hC dX6_widthFor_123 (by decide) ?_
                      refine z_istore (pc := 127) (lv' := [(4, .int (nI k)), (5, .int (nI k)), (3, .int (sVw σ)), (0, .ref (g.1 95)), (1, .int (nI b)), (2, .int n)]) hC dX6_widthFor_127 (by decide) rfl ?_
                      refine z_iinc (pc := 129) (v := nI (k + 1)) (lv' := [(5, .int (nI (k + 1))), (4, .int (nI k)), (3, .int (sVw σ)), (0, .ref (g.1 95)), (1, .int (nI b)), (2, .int n)]) hC 1 dX6_widthFor_129 rfl (nI_1 k) (by decide) rfl ?_
                      refine z_goto (pc := 132) (tgt := 86) hC dX6_widthFor_132 (by decide) ?_
                      exact ih (k + 1) (nI k) I4 J4 (by omega) (zwq_t hk20 (Int32.not_le.mp h96) hq5 (Int32.not_lt.mp h118)) hm4z (fun c hc => (f4 100 c (by decide) (by decide) (by decide) (by decide) (by decide) (by decide) (by decide) (by omega)).trans (h100 c hc)) (fun c hc => (f4 101 _ (by decide) (by decide) (by decide) (by decide) (by decide) (by decide) (by decide) (by omega)).trans (h101 c hc)) ((f4 95 3 (by decide) (by decide) (by decide) (by decide) (by decide) (by decide) (by decide) (by omega)).trans h95) hkm4 (by omega)
            exact L86 2002 0 (-1) I5 J (by decide) zwq_0 (zMd_vp0 hm6) (fun c hc => (f5 100 c (by decide) (by decide) (by decide)).trans (h1.2 c hc)) (fun c hc => hna.2 c (Nat.zero_le _) hc) h956 ⟨hk2.1, hk2.2.1, fun q j hq => (f5 q j (by omega) (by omega) (by omega)).trans (hk2.2.2 q j hq)⟩ (by decide)
          · skip
            exact absurd h64 (by decide)
    · skip
      have g20 := zB_f h20
      refine z_iconst (pc := 23) (v := 2) hC dX6_widthFor_23 rfl ?_
      refine z_goto (pc := 24) (tgt := 28) hC dX6_widthFor_24 (by decide) ?_
      refine z_pI (pc := 28) hC 6 3 rfl (z_lt hC (by decide)) rfl inX6 tyX6_ok nmX6 (by decide) rfl zm_4_76 rfl rfl rfl dX6_widthFor_28 ?_
      refine z_aload_n (pc := 31) hC 0 dX6_widthFor_31 rfl rfl z_isr_r ?_
      refine z_gI (pc := 32) hC 6 3 (x := 2) rfl (z_lt hC (by decide)) rfl inX6 (by decide) rfl zm_4_76 (z_u_s _ _ _ _) dX6_widthFor_32 ?_
      refine z_if_ne (pc := 35) (tgt := 60) hC dX6_widthFor_35 (by decide) (fun h35 => ?_) (fun h35 => ?_)
      · skip
        refine z_aload_n (pc := 60) hC 0 dX6_widthFor_60 rfl rfl z_isr_r ?_
        refine z_gI (pc := 61) hC 6 3 (x := 2) rfl (z_lt hC (by decide)) rfl inX6 (by decide) rfl zm_4_76 (z_u_s _ _ _ _) dX6_widthFor_61 ?_
        refine z_if_eq (pc := 64) (tgt := 69) hC dX6_widthFor_64 (by decide) (fun h64 => ?_) (fun h64 => ?_)
        · skip
          exact absurd h64 (by decide)
        · skip
          refine z_iconst (pc := 67) (v := 0) hC dX6_widthFor_67 rfl ?_
          exact z_iret (pc := 68) hC hE dX6_widthFor_68 ⟨Or.inr (Or.inl ⟨g6, of_decide_eq_false g20, z_u_s _ _ _ _⟩), hm.u (by decide), zKm.rf.u (by decide)⟩
      · skip
        exact absurd h35 (by decide)
  · skip
    have g6 := zB_f h6
    refine z_iconst (pc := 9) (v := 1) hC dX6_widthFor_9 rfl ?_
    refine z_goto (pc := 10) (tgt := 28) hC dX6_widthFor_10 (by decide) ?_
    refine z_pI (pc := 28) hC 6 3 rfl (z_lt hC (by decide)) rfl inX6 tyX6_ok nmX6 (by decide) rfl zm_4_76 rfl rfl rfl dX6_widthFor_28 ?_
    refine z_aload_n (pc := 31) hC 0 dX6_widthFor_31 rfl rfl z_isr_r ?_
    refine z_gI (pc := 32) hC 6 3 (x := 1) rfl (z_lt hC (by decide)) rfl inX6 (by decide) rfl zm_4_76 (z_u_s _ _ _ _) dX6_widthFor_32 ?_
    refine z_if_ne (pc := 35) (tgt := 60) hC dX6_widthFor_35 (by decide) (fun h35 => ?_) (fun h35 => ?_)
    · skip
      refine z_aload_n (pc := 60) hC 0 dX6_widthFor_60 rfl rfl z_isr_r ?_
      refine z_gI (pc := 61) hC 6 3 (x := 1) rfl (z_lt hC (by decide)) rfl inX6 (by decide) rfl zm_4_76 (z_u_s _ _ _ _) dX6_widthFor_61 ?_
      refine z_if_eq (pc := 64) (tgt := 69) hC dX6_widthFor_64 (by decide) (fun h64 => ?_) (fun h64 => ?_)
      · skip
        exact absurd h64 (by decide)
      · skip
        refine z_iconst (pc := 67) (v := 0) hC dX6_widthFor_67 rfl ?_
        exact z_iret (pc := 68) hC hE dX6_widthFor_68 ⟨Or.inl ⟨g6, z_u_s _ _ _ _⟩, hm.u (by decide), zKm.rf.u (by decide)⟩
    · skip
      exact absurd h35 (by decide)
end ZM25
