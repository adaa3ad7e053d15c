section ZLFW
theorem z1_nI {v : Int32} (h0 : 0 ≤ v.toInt) (h1 : v.toInt < 6) : ∃ m : Nat, 1 ≤ m ∧ m ≤ 6 ∧ 1 + v = nI m := by
  have z6 : (6 : Int32).toInt = 6 := rfl
  obtain ⟨k, hk, e⟩ := zi_nI (x := v) (n := 6) (by decide) ((zi_le _ _).mpr h0) ((zi_lt _ _).mpr (by rw [nI_toInt (by decide)]; exact h1))
  exact ⟨k + 1, by omega, by omega, by rw [e, Int32.add_comm, nI_1]⟩
set_option maxHeartbeats 4000000 in
set_option maxRecDepth 100000 in
theorem zLw_75 {C : zC} {g : zG} {sa : Nat → Nat} {N b L : Nat} {xs : Nat → Int32} (hW : zLW C g sa N b L xs) (hE : zLE C g) {m : Nat} (h1 : 1 ≤ m) (h2 : m ≤ 6) {wd gp pd : Int32} (hwd : 0 ≤ wd.toInt ∧ wd.toInt < 1200) (hgp : 0 ≤ gp.toInt ∧ gp.toInt < 20) (hpd : 0 ≤ pd.toInt ∧ pd.toInt < 20) (kc ks : Nat) (I : Nat → Nat → Int32) (P : Nat → Nat → Option Nat) (J : Nat → Nat → Int64) (hkc : kc ≤ 150) (hks : ks ≤ 3000) (hcl : zCl zs0 I P) : zJ C g N 24 kc ks I P J 75 [(0, .ref b), (1, .ref (g.1 80)), (2, .int (nI m)), (3, .int wd), (4, .int gp), (5, .int pd), (6, .ref (g.1 95)), (7, .ref (g.1 96)), (8, .ref (g.1 97)), (9, .ref (g.1 98)), (10, .ref (g.1 99))] [] := by
  obtain ⟨hC, hX, hst, hRm, hx, hbs, hA, hL⟩ := id hW
  have hvp : 0 ≤ wd ∧ wd ≤ 2000 := z_le2 (show (0 : Int) ≤ wd.toInt by omega) (show wd.toInt ≤ (2000 : Int) by omega)
  refine z_aload_n (pc := 75) hC 1 dL_law_75 rfl rfl z_isr_r ?_
  refine z_iload_n (pc := 76) hC 3 dL_law_76 rfl rfl ?_
  refine z_sipush (pc := 77) (v := 300) hC dL_law_77 rfl ?_
  refine zr_vp (pc := 80) (st := []) (x := wd) (y := 300) hW hcl hvp (by decide) ⟨by omega, by omega⟩ (Nat.le_of_ble_eq_true rfl) dL_law_80 (fun I1 P1 J1 hc1 hk1 => ?_)
  refine z_aload_n (pc := 83) hC 1 dL_law_83 rfl rfl z_isr_r ?_
  refine z_iconst (pc := 84) (v := 0) hC dL_law_84 rfl ?_
  refine z_iconst (pc := 85) (v := 4) hC dL_law_85 rfl ?_
  refine z_iload (pc := 86) hC 4 dL_law_86 rfl ?_
  refine zr_set (pc := 88) (st := []) (x := 0) (q := 4) (v := gp) (r := 0) hW hc1 0 4 rfl rfl (by decide) rfl (by decide) (z_le2 (show (0 : Int) ≤ gp.toInt by omega) (show gp.toInt ≤ (50 : Int) by omega)) rfl ⟨by omega, by omega⟩ (Nat.le_of_ble_eq_true rfl) dL_law_88 (fun I2 P2 J2 hc2 hk2 => ?_)
  refine z_if_ne (pc := 91) (tgt := 105) hC dL_law_91 (by decide) (fun h91 => ?_) (fun h91 => ?_)
  · skip
    exact absurd h91 (by decide)
  · skip
    refine z_aload_n (pc := 94) hC 1 dL_law_94 rfl rfl z_isr_r ?_
    refine z_iconst (pc := 95) (v := 0) hC dL_law_95 rfl ?_
    refine z_iconst (pc := 96) (v := 5) hC dL_law_96 rfl ?_
    refine z_iload (pc := 97) hC 5 dL_law_97 rfl ?_
    refine zr_set (pc := 99) (st := []) (x := 0) (q := 5) (v := pd) (r := 0) hW hc2 0 5 rfl rfl (by decide) rfl (by decide) (z_le2 (show (0 : Int) ≤ pd.toInt by omega) (show pd.toInt ≤ (50 : Int) by omega)) ((sSt_ne (by decide)).trans rfl) ⟨by omega, by omega⟩ (Nat.le_of_ble_eq_true rfl) dL_law_99 (fun I3 P3 J3 hc3 hk3 => ?_)
    refine z_if_eq (pc := 102) (tgt := 107) hC dL_law_102 (by decide) (fun h102 => ?_) (fun h102 => ?_)
    · skip
      refine z_iconst (pc := 107) (v := 2) hC dL_law_107 rfl ?_
      refine z_iload (pc := 108) hC 5 dL_law_108 rfl ?_
      refine z_imul (pc := 110) hC dL_law_110 ?_
      refine z_iload (pc := 111) hC 4 dL_law_111 rfl ?_
      refine z_iload_n (pc := 113) hC 2 dL_law_113 rfl rfl ?_
      refine z_iconst (pc := 114) (v := 1) hC dL_law_114 rfl ?_
      refine z_isub (pc := 115) hC dL_law_115 ?_
      refine z_imul (pc := 116) hC dL_law_116 ?_
      refine z_iadd (pc := 117) hC dL_law_117 ?_
      refine z_eqI (y := tNd m (tQ wd gp pd I3) 0) rfl ?_
      refine z_istore (pc := 118) (lv' := [(11, .int (tNd m (tQ wd gp pd I3) 0)), (0, .ref b), (1, .ref (g.1 80)), (2, .int (nI m)), (3, .int wd), (4, .int gp), (5, .int pd), (6, .ref (g.1 95)), (7, .ref (g.1 96)), (8, .ref (g.1 97)), (9, .ref (g.1 98)), (10, .ref (g.1 99))]) hC dL_law_118 (by decide) rfl ?_
      refine z_iconst (pc := 120) (v := 0) hC dL_law_120 rfl ?_
      refine z_istore (pc := 121) (lv' := [(12, .int 0), (11, .int (tNd m (tQ wd gp pd I3) 0)), (0, .ref b), (1, .ref (g.1 80)), (2, .int (nI m)), (3, .int wd), (4, .int gp), (5, .int pd), (6, .ref (g.1 95)), (7, .ref (g.1 96)), (8, .ref (g.1 97)), (9, .ref (g.1 98)), (10, .ref (g.1 99))]) hC dL_law_121 (by decide) rfl ?_
      refine z_iconst (pc := 123) (v := 0) hC dL_law_123 rfl ?_
      refine z_istore (pc := 124) (lv' := [(13, .int 0), (12, .int 0), (11, .int (tNd m (tQ wd gp pd I3) 0)), (0, .ref b), (1, .ref (g.1 80)), (2, .int (nI m)), (3, .int wd), (4, .int gp), (5, .int pd), (6, .ref (g.1 95)), (7, .ref (g.1 96)), (8, .ref (g.1 97)), (9, .ref (g.1 98)), (10, .ref (g.1 99))]) hC dL_law_124 (by decide) rfl ?_
      refine z_iconst (pc := 126) (v := 0) hC dL_law_126 rfl ?_
      refine z_eqI (y := nI 0) rfl ?_
      refine z_istore (pc := 127) (lv' := [(14, .int (nI 0)), (13, .int 0), (12, .int 0), (11, .int (tNd m (tQ wd gp pd I3) 0)), (0, .ref b), (1, .ref (g.1 80)), (2, .int (nI m)), (3, .int wd), (4, .int gp), (5, .int pd), (6, .ref (g.1 95)), (7, .ref (g.1 96)), (8, .ref (g.1 97)), (9, .ref (g.1 98)), (10, .ref (g.1 99))]) hC dL_law_127 (by decide) rfl ?_
      refine z_lvs (lv' := [(14, .int (nI 0)), (11, .int (tNd m (tQ wd gp pd I3) 0)), (0, .ref b), (1, .ref (g.1 80)), (2, .int (nI m)), (3, .int wd), (4, .int gp), (5, .int pd), (6, .ref (g.1 95)), (7, .ref (g.1 96)), (8, .ref (g.1 97)), (9, .ref (g.1 98)), (10, .ref (g.1 99))]) [0, 3, 4, 5, 6, 7, 8, 9, 10, 11, 12, 13, 14] rfl ?_
      exact zLw_l1 hW h1 h2 (fun kc ks σ I P J a1 a2 a3 a4 a5 => zLw_454 hW hE h1 h2 kc ks σ I P J a1 a2 a3 a4 a5) (m + 1) 0 (kc + 1 + 2 + 2) (ks + 6 + 12 + 12) _ I3 P3 J3 _ (by omega) (Nat.zero_le _) (by omega) (by omega) hc3 (tT_0b rfl rfl hc3.1.1) ⟨hwd, hgp, hpd, fun j hj => absurd hj (Nat.not_lt_zero _)⟩ rfl
    · skip
      exact absurd h102 (by decide)
end ZLFW
