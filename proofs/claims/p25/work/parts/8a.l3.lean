section ZL3W
/-- the law's end, whatever it has made -/
def zLE (C : zC) (g : zG) : Prop := ∀ (H : Heap) (locs : List Loc) (ls : Array Slot) (kc ks : Nat), kc ≤ 600130 → ks ≤ 7301080 → va_S (z_A g) C.2.2.2.2.1.heap H locs → zWc C H locs kc ks (F0 C.2.2.2.2.2.1 1102 ls [.int 1])
set_option maxHeartbeats 4000000 in
set_option maxRecDepth 100000 in
theorem zLw_l3 {C : zC} {g : zG} {sa : Nat → Nat} {N b L : Nat} {xs : Nat → Int32} (hW : zLW C g sa N b L xs) (hE : zLE C g) {m : Nat} (h1 : 1 ≤ m) (h2 : m ≤ 6) {q : tP} {σ : zS} (T : tT m 0 q σ) (hO : tOk m q) (hR : tR q = 0) (hJ : tJ q = 0) (kc ks : Nat) (I : Nat → Nat → Int32) (P : Nat → Nat → Option Nat) (J : Nat → Nat → Int64) (sq : Bool) (hkc : kc ≤ 500) (hks : ks ≤ 6000) (hcl : zCl σ I P) (hAr : tAr q I) (hsq : (∀ j, j < m → tCd (tGr m q) m q j) → sq = true) : zJ C g N 24 kc ks I P J 798 [(14, .int (tUs m q m)), (15, .int (zB sq)), (16, .int (zB (tGr m q))), (17, .int (tIn q)), (18, .int (tEn m q m)), (0, .ref b), (1, .ref (g.1 80)), (2, .int (nI m)), (3, .int (tW q)), (4, .int (tG q)), (5, .int (tA q)), (6, .ref (g.1 95)), (7, .ref (g.1 96)), (8, .ref (g.1 97)), (9, .ref (g.1 98)), (10, .ref (g.1 99))] [] := by
  have h39 : m ≤ 39 := by omega
  obtain ⟨hC, hX, hst, hRm, hx, hbs, hA, hL⟩ := id hW
  have J854 : zJ C g N 24 (kc) (ks) I P J 854 [(14, .int (tUs m q m)), (15, .int (zB sq)), (16, .int (zB (tGr m q))), (17, .int (tIn q)), (18, .int (tEn m q m)), (0, .ref b), (1, .ref (g.1 80)), (2, .int (nI m)), (3, .int (tW q)), (4, .int (tG q)), (5, .int (tA q)), (6, .ref (g.1 95)), (7, .ref (g.1 96)), (8, .ref (g.1 97)), (9, .ref (g.1 98)), (10, .ref (g.1 99))] [] := by
    refine z_aload_n (pc := 854) hC 6 dL_law_854 rfl rfl z_isr_r ?_
    refine z_iconst (pc := 855) (v := 0) hC dL_law_855 rfl ?_
    refine z_iconst (pc := 856) (v := 2) hC dL_law_856 rfl ?_
    refine z_iconst (pc := 857) (v := 1) hC dL_law_857 rfl ?_
    refine zr_set (pc := 858) (st := []) (x := 0) (q := 2) (v := 1) (r := 0) hW hcl 0 2 rfl rfl (by decide) (tT_ex T (Nat.zero_le _)) (by decide) (by decide) ((tT_r T).2.2.1.trans hJ) ⟨by omega, by omega⟩ (Nat.le_of_ble_eq_true rfl) dL_law_858 (fun I1 P1 J1 hc1 hk1 => ?_)
    have ha1 := hAr.k hk1
    have T1 := tT_j (v := 1) T hc1.1.1
    obtain ⟨σ1, hσ1⟩ : ∃ z, z = sSet σ 0 2 1 := ⟨_, rfl⟩
    rw [← hσ1] at T1 hc1
    obtain ⟨q1, hq1⟩ : ∃ z, z = qJ q 1 (tR q) := ⟨_, rfl⟩
    rw [← hq1] at T1
    have hR1 : tR q1 = 0 := by rw [hq1]; exact hR
    have hJ1 : tJ q1 = 1 := by rw [hq1]; rfl
    have hO1 : tOk m q1 := by rw [hq1]; exact hO
    have hF1 : ∀ i, tF m q1 i = tF m q i := by
      rw [hq1]
      exact fun i => rfl
    have hM1 : ∀ i, tM q1 i = tM q i := by
      rw [hq1]
      exact fun i => rfl
    have hX1 : ∀ i, tX m q1 i = tX m q i + sJu 1 (tFr m q) i m := by
      rw [hq1]
      exact fun i => tX_J hJ (tR q) i
    have hWA : tW q1 = tW q ∧ tA q1 = tA q := by
      rw [hq1]
      exact ⟨rfl, rfl⟩
    obtain ⟨mv, hmv⟩ : ∃ z, z = sJu 1 (tFr m q) (m - 1) m := ⟨_, rfl⟩
    have hm1 : nI m - 1 = nI (m - 1) := by
      rw [show m = (m - 1) + 1 by omega, ← nI_1, Int32.add_sub_cancel]
      rfl
    obtain ⟨b2, hov⟩ := tT_ov T1 hR1 hO1 h1 h39 (Or.inr hJ1)
    obtain ⟨ob, hob⟩ : ∃ z, z = decide (tW q1 - tA q1 < tE m q1 (m - 1)) := ⟨_, rfl⟩
    rw [← hob] at hov
    refine z_if_eq (pc := 861) (tgt := 866) hC dL_law_861 (by decide) (fun h861 => ?_) (fun h861 => ?_)
    · skip
      refine z_iload (pc := 866) hC 0 dL_law_866 rfl ?_
      refine z_iload (pc := 868) hC 3 dL_law_868 rfl ?_
      refine z_iconst (pc := 870) (v := 2) hC dL_law_870 rfl ?_
      refine z_iload (pc := 871) hC 10 dL_law_871 rfl ?_
      refine z_imul (pc := 873) hC dL_law_873 ?_
      refine z_iadd (pc := 874) hC dL_law_874 ?_
      have J892 : zJ C g N 24 (kc + 2) (ks + 12) I1 P1 J1 892 [(14, .int (tUs m q m)), (15, .int (zB sq)), (16, .int (zB (tGr m q))), (17, .int (tIn q)), (18, .int (tEn m q m)), (0, .ref b), (1, .ref (g.1 80)), (2, .int (nI m)), (3, .int (tW q)), (4, .int (tG q)), (5, .int (tA q)), (6, .ref (g.1 95)), (7, .ref (g.1 96)), (8, .ref (g.1 97)), (9, .ref (g.1 98)), (10, .ref (g.1 99))] [.int mv] := by
        refine z_istore (pc := 892) (lv' := [(19, .int mv), (14, .int (tUs m q m)), (15, .int (zB sq)), (16, .int (zB (tGr m q))), (17, .int (tIn q)), (18, .int (tEn m q m)), (0, .ref b), (1, .ref (g.1 80)), (2, .int (nI m)), (3, .int (tW q)), (4, .int (tG q)), (5, .int (tA q)), (6, .ref (g.1 95)), (7, .ref (g.1 96)), (8, .ref (g.1 97)), (9, .ref (g.1 98)), (10, .ref (g.1 99))]) hC dL_law_892 (by decide) rfl ?_
        refine z_aload_n (pc := 894) hC 7 dL_law_894 rfl rfl z_isr_r ?_
        refine z_iload_n (pc := 895) hC 8 dL_law_895 rfl rfl ?_
        refine zr_get (pc := 896) (st := []) (f := (fun b => sX σ1 b)) (r := tX m q1 (m - 1)) (x := nI m) hW hc1 (m - 1 + 1) (by rw [show m - 1 + 1 = m by omega]) (kX5_x C.2.1 hst g sa N I1 P1 J1 hc1 (nI m)) zkX5_x zm_3_67 (by decide) (tT_sh T1 (by decide) (show m - 1 < m - 0 by omega)) (tT_x T1 hR1 hO1 (show m - 1 < m by omega)) ⟨by omega, by omega⟩ (Nat.le_of_ble_eq_true rfl) dL_law_896 (fun I2 P2 J2 hc2 hk2 => ?_)
        have ha2 := ha1.k hk2
        refine z_aload_n (pc := 899) hC 7 dL_law_899 rfl rfl z_isr_r ?_
        refine z_iload_n (pc := 900) hC 8 dL_law_900 rfl rfl ?_
        refine zr_get (pc := 901) (st := [.int (tX m q1 (m - 1))]) (f := (fun b => sWD σ1 b)) (r := tF m q1 (m - 1)) (x := nI m) hW hc2 (m - 1 + 1) (by rw [show m - 1 + 1 = m by omega]) (kX5_width C.2.1 hst g sa N I2 P2 J2 hc2 (nI m)) zkX5_width zm_3_80 (by decide) (tT_sh T1 (by decide) (show m - 1 < m - 0 by omega)) (tT_wd T1 hR1 hO1 (show m - 1 < m by omega)) ⟨by omega, by omega⟩ (Nat.le_of_ble_eq_true rfl) dL_law_901 (fun I3 P3 J3 hc3 hk3 => ?_)
        have ha3 := ha2.k hk3
        refine z_iadd (pc := 904) hC dL_law_904 ?_
        refine z_aload (pc := 905) hC 14 dL_law_905 rfl z_isr_r ?_
        refine z_iload_n (pc := 907) hC 8 dL_law_907 rfl rfl ?_
        refine z_iconst (pc := 908) (v := 1) hC dL_law_908 rfl ?_
        refine z_isub (pc := 909) hC dL_law_909 ?_
        refine z_iaN (pc := 910) hC (m - 1) (x := tM q (m - 1)) rfl (z_lt hC (by decide)) hm1 (by omega) (by decide) ((ha3) (m - 1)).2.2.1 dL_law_910 ?_
        refine z_iadd (pc := 911) hC dL_law_911 ?_
        obtain ⟨la, e_la⟩ : ∃ z, z = ((tX m q1 (m - 1)) + (tF m q1 (m - 1))) + (tM q (m - 1)) := ⟨_, rfl⟩
        rw [← e_la]
        refine z_istore (pc := 912) (lv' := [(20, .int la), (19, .int mv), (14, .int (tUs m q m)), (15, .int (zB sq)), (16, .int (zB (tGr m q))), (17, .int (tIn q)), (18, .int (tEn m q m)), (0, .ref b), (1, .ref (g.1 80)), (2, .int (nI m)), (3, .int (tW q)), (4, .int (tG q)), (5, .int (tA q)), (6, .ref (g.1 95)), (7, .ref (g.1 96)), (8, .ref (g.1 97)), (9, .ref (g.1 98)), (10, .ref (g.1 99))]) hC dL_law_912 (by decide) rfl ?_
        have hla : la = tE m q1 (m - 1) := by
          rw [e_la]
          show tX m q1 (m - 1) + tF m q1 (m - 1) + tM q (m - 1) = tX m q1 (m - 1) + tF m q1 (m - 1) + tM q1 (m - 1)
          rw [hM1]
        have hlb : la = tEn m q m + mv := by
          rw [e_la, hX1, hF1, ← hmv]
          have y : tEn m q m = tX m q (m - 1) + tF m q (m - 1) + tM q (m - 1) := by
            rw [show m = m - 1 + 1 by omega]
            rfl
          rw [y]
          generalize tX m q (m - 1) = z1
          generalize tF m q (m - 1) = z2
          generalize tM q (m - 1) = z3
          grind
        have hob2 : ob = decide (tW q - tA q < la) := by
          rw [hob, hla, hWA.1, hWA.2]
        refine z_iload (pc := 914) hC 0 dL_law_914 rfl ?_
        refine z_iload (pc := 916) hC 6 dL_law_916 rfl ?_
        refine z_iload (pc := 918) hC 1 dL_law_918 rfl ?_
        refine z_iadd (pc := 920) hC dL_law_920 ?_
        refine z_icmp_ne (pc := 921) (tgt := 948) hC dL_law_921 (by decide) (fun h921 => ?_) (fun h921 => ?_)
        · skip
          exact absurd hlb h921
        · skip
          refine z_aload_n (pc := 924) hC 8 dL_law_924 rfl rfl z_isr_r ?_
          refine z_iconst (pc := 925) (v := 0) hC dL_law_925 rfl ?_
          refine zr_get (pc := 926) (st := []) (f := (sOvf σ1)) (r := zB ob + zB2 b2) (x := 0) hW hc3 0 rfl (kX5_overflow C.2.1 hst g sa N I3 P3 J3 hc3 0) zkX5_overflow zm_3_96 (by decide) sSh_0 hov ⟨by omega, by omega⟩ (Nat.le_of_ble_eq_true rfl) dL_law_926 (fun I4 P4 J4 hc4 hk4 => ?_)
          have ha4 := ha3.k hk4
          refine z_iconst (pc := 929) (v := 2) hC dL_law_929 rfl ?_
          refine z_irem (pc := 930) hC dL_law_930 (by decide) ?_
          refine z_eqI (zrem2 ob b2) ?_
          refine z_iload (pc := 931) hC 0 dL_law_931 rfl ?_
          refine z_iload_n (pc := 933) hC 10 dL_law_933 rfl rfl ?_
          refine z_iload (pc := 934) hC 12 dL_law_934 rfl ?_
          refine z_isub (pc := 936) hC dL_law_936 ?_
          have J950 : zJ C g N 24 (kc + 2 + 2 + 2 + 2) (ks + 12 + 12 + 12 + 12) I4 P4 J4 950 [(20, .int la), (19, .int mv), (14, .int (tUs m q m)), (15, .int (zB sq)), (16, .int (zB (tGr m q))), (17, .int (tIn q)), (18, .int (tEn m q m)), (0, .ref b), (1, .ref (g.1 80)), (2, .int (nI m)), (3, .int (tW q)), (4, .int (tG q)), (5, .int (tA q)), (6, .ref (g.1 95)), (7, .ref (g.1 96)), (8, .ref (g.1 97)), (9, .ref (g.1 98)), (10, .ref (g.1 99))] [] := by
            refine z_aload_n (pc := 950) hC 8 dL_law_950 rfl rfl z_isr_r ?_
            refine z_iconst (pc := 951) (v := 0) hC dL_law_951 rfl ?_
            refine z_iconst (pc := 952) (v := 1) hC dL_law_952 rfl ?_
            refine z_iconst (pc := 953) (v := 1) hC dL_law_953 rfl ?_
            refine zr_set (pc := 954) (st := []) (x := 0) (q := 1) (v := 1) (r := 0) hW hc4 0 1 rfl rfl (by decide) (tT_ex T1 (Nat.zero_le _)) (by decide) (by decide) ((tT_r T1).2.1.trans hR1) ⟨by omega, by omega⟩ (Nat.le_of_ble_eq_true rfl) dL_law_954 (fun I5 P5 J5 hc5 hk5 => ?_)
            have ha5 := ha4.k hk5
            have T2 := tT_w (v := 1) T1 hc5.1.1
            obtain ⟨σ2, hσ2⟩ : ∃ z, z = sSet σ1 0 1 1 := ⟨_, rfl⟩
            rw [← hσ2] at T2 hc5
            obtain ⟨q2, hq2⟩ : ∃ z, z = qJ q1 (tJ q1) 1 := ⟨_, rfl⟩
            rw [← hq2] at T2
            have hR2 : tR q2 = 1 := by rw [hq2]; rfl
            have hJ2 : tJ q2 = 1 := by rw [hq2]; exact hJ1
            have hO2 : tOk m q2 := by rw [hq2]; exact hO1
            have hW2 : tW q2 = tW q := by
              rw [hq2]
              exact hWA.1
            obtain ⟨nl, hnl⟩ : ∃ z, z = sLC σ2 (sNW σ2) 0 (sWD σ2 0) := ⟨_, rfl⟩
            obtain ⟨wv, hwv⟩ : ∃ z, z = sWf σ2 0 nl := ⟨_, rfl⟩
            have L1 := tT_ln1 T2 h1 h39
            have L2 := tT_wf1 T2 h1 hO2
            rw [← hnl] at L1 L2
            rw [← hwv, hW2] at L2
            have hnr : 0 ≤ nl ∧ nl ≤ 100 := by
              have y := tT_lc T2 h1 (sNW σ2) (sWD σ2 0)
              have z0 : (0 : Int32).toInt = 0 := rfl
              have z1 : (100 : Int32).toInt = 100 := rfl
              rw [hnl, y.1, zi_le, zi_le, nI_toInt (by omega), z0, z1]
              omega
            have hmr : 0 ≤ nI m ∧ nI m ≤ 100 := by
              have z0 : (0 : Int32).toInt = 0 := rfl
              have z1 : (100 : Int32).toInt = 100 := rfl
              rw [zi_le, zi_le, nI_toInt (by omega), z0, z1]
              omega
            have hit := tT_hit T2 hO2 h1 h39 hJ2
            refine z_if_eq (pc := 957) (tgt := 962) hC dL_law_957 (by decide) (fun h957 => ?_) (fun h957 => ?_)
            · skip
              refine z_aload_n (pc := 962) hC 8 dL_law_962 rfl rfl z_isr_r ?_
              refine z_iconst (pc := 963) (v := 0) hC dL_law_963 rfl ?_
              refine zr_get (pc := 964) (st := []) (f := (fun b => sLC σ2 (sNW σ2) b (sWD σ2 b))) (r := nl) (x := 0) hW hc5 0 rfl (kX5_lines C.2.1 hst g sa N I5 P5 J5 hc5 0) zkX5_lines zm_3_88 (by decide) sSh_0 hnl.symm ⟨by omega, by omega⟩ (Nat.le_of_ble_eq_true rfl) dL_law_964 (fun I6 P6 J6 hc6 hk6 => ?_)
              have ha6 := ha5.k hk6
              refine z_istore (pc := 967) (lv' := [(21, .int nl), (20, .int la), (19, .int mv), (14, .int (tUs m q m)), (15, .int (zB sq)), (16, .int (zB (tGr m q))), (17, .int (tIn q)), (18, .int (tEn m q m)), (0, .ref b), (1, .ref (g.1 80)), (2, .int (nI m)), (3, .int (tW q)), (4, .int (tG q)), (5, .int (tA q)), (6, .ref (g.1 95)), (7, .ref (g.1 96)), (8, .ref (g.1 97)), (9, .ref (g.1 98)), (10, .ref (g.1 99))]) hC dL_law_967 (by decide) rfl ?_
              refine z_aload_n (pc := 969) hC 9 dL_law_969 rfl rfl z_isr_r ?_
              refine z_iconst (pc := 970) (v := 0) hC dL_law_970 rfl ?_
              refine z_iload (pc := 971) hC 0 dL_law_971 rfl ?_
              refine zr_wf (pc := 973) (st := []) (x := 0) (n := nl) (r := wv) hW hc6 rfl hnr hwv.symm ⟨by omega, by omega⟩ (Nat.le_of_ble_eq_true rfl) dL_law_973 (fun I7 P7 J7 hc7 hk7 => ?_)
              have ha7 := ha6.k hk7
              refine z_istore (pc := 976) (lv' := [(22, .int wv), (21, .int nl), (20, .int la), (19, .int mv), (14, .int (tUs m q m)), (15, .int (zB sq)), (16, .int (zB (tGr m q))), (17, .int (tIn q)), (18, .int (tEn m q m)), (0, .ref b), (1, .ref (g.1 80)), (2, .int (nI m)), (3, .int (tW q)), (4, .int (tG q)), (5, .int (tA q)), (6, .ref (g.1 95)), (7, .ref (g.1 96)), (8, .ref (g.1 97)), (9, .ref (g.1 98)), (10, .ref (g.1 99))]) hC dL_law_976 (by decide) rfl ?_
              refine z_iload (pc := 978) hC 1 dL_law_978 rfl ?_
              refine z_iconst (pc := 980) (v := 1) hC dL_law_980 rfl ?_
              refine z_icmp_lt (pc := 981) (tgt := 1015) hC dL_law_981 (by decide) (fun h981 => ?_) (fun h981 => ?_)
              · skip
                have g981 := Int32.not_le.mpr h981
                exact absurd h981 L1.1
              · skip
                have g981 := Int32.not_lt.mp h981
                refine z_iload (pc := 984) hC 1 dL_law_984 rfl ?_
                refine z_iload_n (pc := 986) hC 11 dL_law_986 rfl rfl ?_
                refine z_icmp_gt (pc := 987) (tgt := 1015) hC dL_law_987 (by decide) (fun h987 => ?_) (fun h987 => ?_)
                · skip
                  have g987 := Int32.not_le.mpr h987
                  exact absurd h987 L1.2
                · skip
                  have g987 := Int32.not_lt.mp h987
                  refine z_iload (pc := 990) hC 0 dL_law_990 rfl ?_
                  refine z_iload_n (pc := 992) hC 12 dL_law_992 rfl rfl ?_
                  refine z_icmp_gt (pc := 993) (tgt := 1015) hC dL_law_993 (by decide) (fun h993 => ?_) (fun h993 => ?_)
                  · skip
                    have g993 := Int32.not_le.mpr h993
                    exact absurd h993 L2
                  · skip
                    have g993 := Int32.not_lt.mp h993
                    refine z_aload_n (pc := 996) hC 10 dL_law_996 rfl rfl z_isr_r ?_
                    refine z_iconst (pc := 997) (v := 0) hC dL_law_997 rfl ?_
                    refine z_iload_n (pc := 998) hC 11 dL_law_998 rfl rfl ?_
                    refine zr_wf (pc := 999) (st := []) (x := 0) (n := nI m) (r := 0) hW hc7 rfl hmr (tT_wfm T2 h1 h39) ⟨by omega, by omega⟩ (Nat.le_of_ble_eq_true rfl) dL_law_999 (fun I8 P8 J8 hc8 hk8 => ?_)
                    have ha8 := ha7.k hk8
                    refine z_if_ne (pc := 1002) (tgt := 1015) hC dL_law_1002 (by decide) (fun h1002 => ?_) (fun h1002 => ?_)
                    · skip
                      exact absurd h1002 (by decide)
                    · skip
                      refine z_aload_n (pc := 1005) hC 10 dL_law_1005 rfl rfl z_isr_r ?_
                      refine z_iconst (pc := 1006) (v := 0) hC dL_law_1006 rfl ?_
                      refine z_iconst (pc := 1007) (v := 0) hC dL_law_1007 rfl ?_
                      refine zr_wf (pc := 1008) (st := []) (x := 0) (n := 0) (r := (-1)) hW hc8 rfl (by decide) (tT_wf0 T2 h1 h39) ⟨by omega, by omega⟩ (Nat.le_of_ble_eq_true rfl) dL_law_1008 (fun I9 P9 J9 hc9 hk9 => ?_)
                      have ha9 := ha8.k hk9
                      refine z_iconst (pc := 1011) (v := (-1)) hC dL_law_1011 rfl ?_
                      refine z_icmp_eq (pc := 1012) (tgt := 1017) hC dL_law_1012 (by decide) (fun h1012 => ?_) (fun h1012 => ?_)
                      · skip
                        refine z_aload_n (pc := 1017) hC 10 dL_law_1017 rfl rfl z_isr_r ?_
                        refine z_aload_n (pc := 1018) hC 10 dL_law_1018 rfl rfl z_isr_r ?_
                        refine z_iconst (pc := 1019) (v := 1) hC dL_law_1019 rfl ?_
                        refine zr_get (pc := 1020) (st := [.ref (g.1 80)]) (f := (fun b => sX σ2 b)) (r := sX σ2 1) (x := 1) hW hc9 1 rfl (kX5_x C.2.1 hst g sa N I9 P9 J9 hc9 1) zkX5_x zm_3_67 (by decide) (tT_sh T2 (by decide) (show 0 < m - 0 by omega)) rfl ⟨by omega, by omega⟩ (Nat.le_of_ble_eq_true rfl) dL_law_1020 (fun I10 P10 J10 hc10 hk10 => ?_)
                        have ha10 := ha9.k hk10
                        refine z_aload_n (pc := 1023) hC 10 dL_law_1023 rfl rfl z_isr_r ?_
                        refine z_iconst (pc := 1024) (v := 1) hC dL_law_1024 rfl ?_
                        refine zr_get (pc := 1025) (st := [.int (sX σ2 1), .ref (g.1 80)]) (f := (fun b => sY σ2 b)) (r := sY σ2 1) (x := 1) hW hc10 1 rfl (kX5_y C.2.1 hst g sa N I10 P10 J10 hc10 1) zkX5_y zm_3_76 (by decide) (tT_sh T2 (by decide) (show 0 < m - 0 by omega)) rfl ⟨by omega, by omega⟩ (Nat.le_of_ble_eq_true rfl) dL_law_1025 (fun I11 P11 J11 hc11 hk11 => ?_)
                        have ha11 := ha10.k hk11
                        refine zr_hit (pc := 1028) (st := []) (x := sX σ2 1) (y := sY σ2 1) hW hc11 ⟨by omega, by omega⟩ (Nat.le_of_ble_eq_true rfl) dL_law_1028 (fun I12 P12 J12 hc12 hk12 => ?_)
                        have ha12 := ha11.k hk12
                        refine z_istore (pc := 1031) (lv' := [(23, .int (sHit σ2 (sX σ2 1) (sY σ2 1))), (22, .int wv), (21, .int nl), (20, .int la), (19, .int mv), (14, .int (tUs m q m)), (15, .int (zB sq)), (16, .int (zB (tGr m q))), (17, .int (tIn q)), (18, .int (tEn m q m)), (0, .ref b), (1, .ref (g.1 80)), (2, .int (nI m)), (3, .int (tW q)), (4, .int (tG q)), (5, .int (tA q)), (6, .ref (g.1 95)), (7, .ref (g.1 96)), (8, .ref (g.1 97)), (9, .ref (g.1 98)), (10, .ref (g.1 99))]) hC dL_law_1031 (by decide) rfl ?_
                        refine z_aload_n (pc := 1033) hC 11 dL_law_1033 rfl rfl z_isr_r ?_
                        refine z_iconst (pc := 1034) (v := 1) hC dL_law_1034 rfl ?_
                        refine zr_get (pc := 1035) (st := []) (f := (fun b => sWD σ2 b)) (r := sWD σ2 1) (x := 1) hW hc12 1 rfl (kX5_width C.2.1 hst g sa N I12 P12 J12 hc12 1) zkX5_width zm_3_80 (by decide) (tT_sh T2 (by decide) (show 0 < m - 0 by omega)) rfl ⟨by omega, by omega⟩ (Nat.le_of_ble_eq_true rfl) dL_law_1035 (fun I13 P13 J13 hc13 hk13 => ?_)
                        have ha13 := ha12.k hk13
                        refine z_if_le (pc := 1038) (tgt := 1058) hC dL_law_1038 (by decide) (fun h1038 => ?_) (fun h1038 => ?_)
                        · skip
                          have g1038 := Int32.not_lt.mpr h1038
                          refine z_iload (pc := 1058) hC 0 dL_law_1058 rfl ?_
                          refine z_iconst (pc := 1060) (v := (-1)) hC dL_law_1060 rfl ?_
                          refine z_icmp_lt (pc := 1061) (tgt := 1101) hC dL_law_1061 (by decide) (fun h1061 => ?_) (fun h1061 => ?_)
                          · skip
                            have g1061 := Int32.not_le.mpr h1061
                            exact absurd h1061 hit.2
                          · skip
                            have g1061 := Int32.not_lt.mp h1061
                            refine z_aload_n (pc := 1064) hC 11 dL_law_1064 rfl rfl z_isr_r ?_
                            refine z_iconst (pc := 1065) (v := 1) hC dL_law_1065 rfl ?_
                            refine z_bipush (pc := 1066) (v := 18) hC dL_law_1066 rfl ?_
                            refine z_iconst (pc := 1068) (v := 1) hC dL_law_1068 rfl ?_
                            refine zr_set (pc := 1069) (st := []) (x := 1) (q := 18) (v := 1) (r := 0) hW hc13 1 18 rfl rfl (by decide) (tT_ex T2 h1) (by decide) (by decide) ((T2.2.2.2.2.2.2.2 0 18 (by omega) (by decide)).trans rfl) ⟨by omega, by omega⟩ (Nat.le_of_ble_eq_true rfl) dL_law_1069 (fun I14 P14 J14 hc14 hk14 => ?_)
                            have ha14 := ha13.k hk14
                            have T3 := tT_h T2 hc14.1.1
                            obtain ⟨σ3, hσ3⟩ : ∃ z, z = sSet σ2 1 18 1 := ⟨_, rfl⟩
                            rw [← hσ3] at T3 hc14
                            have L3 := tT_hid T2 T3 hO2 hR2 h1 h39
                            rw [← hnl] at L3
                            refine z_if_ne (pc := 1072) (tgt := 1101) hC dL_law_1072 (by decide) (fun h1072 => ?_) (fun h1072 => ?_)
                            · skip
                              exact absurd h1072 (by decide)
                            · skip
                              refine z_aload_n (pc := 1075) hC 11 dL_law_1075 rfl rfl z_isr_r ?_
                              refine z_iconst (pc := 1076) (v := 0) hC dL_law_1076 rfl ?_
                              refine z_iconst (pc := 1077) (v := (-1)) hC dL_law_1077 rfl ?_
                              refine zr_ch (pc := 1078) (st := []) (x := 0) (i := (-1)) (r := nI (m - 1)) hW hc14 rfl (tT_chl T3) ⟨by omega, by omega⟩ (Nat.le_of_ble_eq_true rfl) dL_law_1078 (fun I15 P15 J15 hc15 hk15 => ?_)
                              have ha15 := ha14.k hk15
                              refine z_iload_n (pc := 1081) hC 12 dL_law_1081 rfl rfl ?_
                              refine z_iconst (pc := 1082) (v := 1) hC dL_law_1082 rfl ?_
                              refine z_isub (pc := 1083) hC dL_law_1083 ?_
                              refine z_icmp_ne (pc := 1084) (tgt := 1101) hC dL_law_1084 (by decide) (fun h1084 => ?_) (fun h1084 => ?_)
                              · skip
                                exact absurd hm1.symm h1084
                              · skip
                                refine z_aload_n (pc := 1087) hC 11 dL_law_1087 rfl rfl z_isr_r ?_
                                refine z_iconst (pc := 1088) (v := 0) hC dL_law_1088 rfl ?_
                                refine zr_get (pc := 1089) (st := []) (f := (fun b => sLC σ3 (sNW σ3) b (sWD σ3 b))) (r := sLC σ3 (sNW σ3) 0 (sWD σ3 0)) (x := 0) hW hc15 0 rfl (kX5_lines C.2.1 hst g sa N I15 P15 J15 hc15 0) zkX5_lines zm_3_88 (by decide) sSh_0 rfl ⟨by omega, by omega⟩ (Nat.le_of_ble_eq_true rfl) dL_law_1089 (fun I16 P16 J16 hc16 hk16 => ?_)
                                have ha16 := ha15.k hk16
                                refine z_iload (pc := 1092) hC 2 dL_law_1092 rfl ?_
                                refine z_icmp_gt (pc := 1094) (tgt := 1101) hC dL_law_1094 (by decide) (fun h1094 => ?_) (fun h1094 => ?_)
                                · skip
                                  have g1094 := Int32.not_le.mpr h1094
                                  exact absurd h1094 L3
                                · skip
                                  have g1094 := Int32.not_lt.mp h1094
                                  refine z_iconst (pc := 1097) (v := 1) hC dL_law_1097 rfl ?_
                                  refine z_goto (pc := 1098) (tgt := 1102) hC dL_law_1098 (by decide) ?_
                                  exact fun H locs ls hP hS hl => hE H locs ls _ _ (by omega) (by omega) hS
                        · skip
                          have g1038 := Int32.not_le.mp h1038
                          refine z_aload_n (pc := 1041) hC 11 dL_law_1041 rfl rfl z_isr_r ?_
                          refine z_iconst (pc := 1042) (v := 1) hC dL_law_1042 rfl ?_
                          refine zr_get (pc := 1043) (st := []) (f := (fun b => sHT σ2 b)) (r := sHT σ2 1) (x := 1) hW hc13 1 rfl (kX5_height C.2.1 hst g sa N I13 P13 J13 hc13 1) zkX5_height zm_3_84 (by decide) (tT_sh T2 (by decide) (show 0 < m - 0 by omega)) rfl ⟨by omega, by omega⟩ (Nat.le_of_ble_eq_true rfl) dL_law_1043 (fun I17 P17 J17 hc17 hk17 => ?_)
                          have ha17 := ha13.k hk17
                          refine z_if_le (pc := 1046) (tgt := 1058) hC dL_law_1046 (by decide) (fun h1046 => ?_) (fun h1046 => ?_)
                          · skip
                            have g1046 := Int32.not_lt.mpr h1046
                            refine z_iload (pc := 1058) hC 0 dL_law_1058 rfl ?_
                            refine z_iconst (pc := 1060) (v := (-1)) hC dL_law_1060 rfl ?_
                            refine z_icmp_lt (pc := 1061) (tgt := 1101) hC dL_law_1061 (by decide) (fun h1061 => ?_) (fun h1061 => ?_)
                            · skip
                              have g1061 := Int32.not_le.mpr h1061
                              exact absurd h1061 hit.2
                            · skip
                              have g1061 := Int32.not_lt.mp h1061
                              refine z_aload_n (pc := 1064) hC 11 dL_law_1064 rfl rfl z_isr_r ?_
                              refine z_iconst (pc := 1065) (v := 1) hC dL_law_1065 rfl ?_
                              refine z_bipush (pc := 1066) (v := 18) hC dL_law_1066 rfl ?_
                              refine z_iconst (pc := 1068) (v := 1) hC dL_law_1068 rfl ?_
                              refine zr_set (pc := 1069) (st := []) (x := 1) (q := 18) (v := 1) (r := 0) hW hc17 1 18 rfl rfl (by decide) (tT_ex T2 h1) (by decide) (by decide) ((T2.2.2.2.2.2.2.2 0 18 (by omega) (by decide)).trans rfl) ⟨by omega, by omega⟩ (Nat.le_of_ble_eq_true rfl) dL_law_1069 (fun I18 P18 J18 hc18 hk18 => ?_)
                              have ha18 := ha17.k hk18
                              have T3 := tT_h T2 hc18.1.1
                              obtain ⟨σ3, hσ3⟩ : ∃ z, z = sSet σ2 1 18 1 := ⟨_, rfl⟩
                              rw [← hσ3] at T3 hc18
                              have L3 := tT_hid T2 T3 hO2 hR2 h1 h39
                              rw [← hnl] at L3
                              refine z_if_ne (pc := 1072) (tgt := 1101) hC dL_law_1072 (by decide) (fun h1072 => ?_) (fun h1072 => ?_)
                              · skip
                                exact absurd h1072 (by decide)
                              · skip
                                refine z_aload_n (pc := 1075) hC 11 dL_law_1075 rfl rfl z_isr_r ?_
                                refine z_iconst (pc := 1076) (v := 0) hC dL_law_1076 rfl ?_
                                refine z_iconst (pc := 1077) (v := (-1)) hC dL_law_1077 rfl ?_
                                refine zr_ch (pc := 1078) (st := []) (x := 0) (i := (-1)) (r := nI (m - 1)) hW hc18 rfl (tT_chl T3) ⟨by omega, by omega⟩ (Nat.le_of_ble_eq_true rfl) dL_law_1078 (fun I19 P19 J19 hc19 hk19 => ?_)
                                have ha19 := ha18.k hk19
                                refine z_iload_n (pc := 1081) hC 12 dL_law_1081 rfl rfl ?_
                                refine z_iconst (pc := 1082) (v := 1) hC dL_law_1082 rfl ?_
                                refine z_isub (pc := 1083) hC dL_law_1083 ?_
                                refine z_icmp_ne (pc := 1084) (tgt := 1101) hC dL_law_1084 (by decide) (fun h1084 => ?_) (fun h1084 => ?_)
                                · skip
                                  exact absurd hm1.symm h1084
                                · skip
                                  refine z_aload_n (pc := 1087) hC 11 dL_law_1087 rfl rfl z_isr_r ?_
                                  refine z_iconst (pc := 1088) (v := 0) hC dL_law_1088 rfl ?_
                                  refine zr_get (pc := 1089) (st := []) (f := (fun b => sLC σ3 (sNW σ3) b (sWD σ3 b))) (r := sLC σ3 (sNW σ3) 0 (sWD σ3 0)) (x := 0) hW hc19 0 rfl (kX5_lines C.2.1 hst g sa N I19 P19 J19 hc19 0) zkX5_lines zm_3_88 (by decide) sSh_0 rfl ⟨by omega, by omega⟩ (Nat.le_of_ble_eq_true rfl) dL_law_1089 (fun I20 P20 J20 hc20 hk20 => ?_)
                                  have ha20 := ha19.k hk20
                                  refine z_iload (pc := 1092) hC 2 dL_law_1092 rfl ?_
                                  refine z_icmp_gt (pc := 1094) (tgt := 1101) hC dL_law_1094 (by decide) (fun h1094 => ?_) (fun h1094 => ?_)
                                  · skip
                                    have g1094 := Int32.not_le.mpr h1094
                                    exact absurd h1094 L3
                                  · skip
                                    have g1094 := Int32.not_lt.mp h1094
                                    refine z_iconst (pc := 1097) (v := 1) hC dL_law_1097 rfl ?_
                                    refine z_goto (pc := 1098) (tgt := 1102) hC dL_law_1098 (by decide) ?_
                                    exact fun H locs ls hP hS hl => hE H locs ls _ _ (by omega) (by omega) hS
                          · skip
                            have g1046 := Int32.not_le.mp h1046
                            refine z_iload (pc := 1049) hC 0 dL_law_1049 rfl ?_
                            refine z_iconst (pc := 1051) (v := 1) hC dL_law_1051 rfl ?_
                            refine z_icmp_lt (pc := 1052) (tgt := 1101) hC dL_law_1052 (by decide) (fun h1052 => ?_) (fun h1052 => ?_)
                            · skip
                              have g1052 := Int32.not_le.mpr h1052
                              exact absurd h1052 (hit.1 (Int32.not_le.mp h1038) (Int32.not_le.mp h1046))
                            · skip
                              have g1052 := Int32.not_lt.mp h1052
                              refine z_goto (pc := 1055) (tgt := 1064) hC dL_law_1055 (by decide) ?_
                              refine z_aload_n (pc := 1064) hC 11 dL_law_1064 rfl rfl z_isr_r ?_
                              refine z_iconst (pc := 1065) (v := 1) hC dL_law_1065 rfl ?_
                              refine z_bipush (pc := 1066) (v := 18) hC dL_law_1066 rfl ?_
                              refine z_iconst (pc := 1068) (v := 1) hC dL_law_1068 rfl ?_
                              refine zr_set (pc := 1069) (st := []) (x := 1) (q := 18) (v := 1) (r := 0) hW hc17 1 18 rfl rfl (by decide) (tT_ex T2 h1) (by decide) (by decide) ((T2.2.2.2.2.2.2.2 0 18 (by omega) (by decide)).trans rfl) ⟨by omega, by omega⟩ (Nat.le_of_ble_eq_true rfl) dL_law_1069 (fun I21 P21 J21 hc21 hk21 => ?_)
                              have ha21 := ha17.k hk21
                              have T3 := tT_h T2 hc21.1.1
                              obtain ⟨σ3, hσ3⟩ : ∃ z, z = sSet σ2 1 18 1 := ⟨_, rfl⟩
                              rw [← hσ3] at T3 hc21
                              have L3 := tT_hid T2 T3 hO2 hR2 h1 h39
                              rw [← hnl] at L3
                              refine z_if_ne (pc := 1072) (tgt := 1101) hC dL_law_1072 (by decide) (fun h1072 => ?_) (fun h1072 => ?_)
                              · skip
                                exact absurd h1072 (by decide)
                              · skip
                                refine z_aload_n (pc := 1075) hC 11 dL_law_1075 rfl rfl z_isr_r ?_
                                refine z_iconst (pc := 1076) (v := 0) hC dL_law_1076 rfl ?_
                                refine z_iconst (pc := 1077) (v := (-1)) hC dL_law_1077 rfl ?_
                                refine zr_ch (pc := 1078) (st := []) (x := 0) (i := (-1)) (r := nI (m - 1)) hW hc21 rfl (tT_chl T3) ⟨by omega, by omega⟩ (Nat.le_of_ble_eq_true rfl) dL_law_1078 (fun I22 P22 J22 hc22 hk22 => ?_)
                                have ha22 := ha21.k hk22
                                refine z_iload_n (pc := 1081) hC 12 dL_law_1081 rfl rfl ?_
                                refine z_iconst (pc := 1082) (v := 1) hC dL_law_1082 rfl ?_
                                refine z_isub (pc := 1083) hC dL_law_1083 ?_
                                refine z_icmp_ne (pc := 1084) (tgt := 1101) hC dL_law_1084 (by decide) (fun h1084 => ?_) (fun h1084 => ?_)
                                · skip
                                  exact absurd hm1.symm h1084
                                · skip
                                  refine z_aload_n (pc := 1087) hC 11 dL_law_1087 rfl rfl z_isr_r ?_
                                  refine z_iconst (pc := 1088) (v := 0) hC dL_law_1088 rfl ?_
                                  refine zr_get (pc := 1089) (st := []) (f := (fun b => sLC σ3 (sNW σ3) b (sWD σ3 b))) (r := sLC σ3 (sNW σ3) 0 (sWD σ3 0)) (x := 0) hW hc22 0 rfl (kX5_lines C.2.1 hst g sa N I22 P22 J22 hc22 0) zkX5_lines zm_3_88 (by decide) sSh_0 rfl ⟨by omega, by omega⟩ (Nat.le_of_ble_eq_true rfl) dL_law_1089 (fun I23 P23 J23 hc23 hk23 => ?_)
                                  have ha23 := ha22.k hk23
                                  refine z_iload (pc := 1092) hC 2 dL_law_1092 rfl ?_
                                  refine z_icmp_gt (pc := 1094) (tgt := 1101) hC dL_law_1094 (by decide) (fun h1094 => ?_) (fun h1094 => ?_)
                                  · skip
                                    have g1094 := Int32.not_le.mpr h1094
                                    exact absurd h1094 L3
                                  · skip
                                    have g1094 := Int32.not_lt.mp h1094
                                    refine z_iconst (pc := 1097) (v := 1) hC dL_law_1097 rfl ?_
                                    refine z_goto (pc := 1098) (tgt := 1102) hC dL_law_1098 (by decide) ?_
                                    exact fun H locs ls hP hS hl => hE H locs ls _ _ (by omega) (by omega) hS
                      · skip
                        exact absurd h1012 (by decide)
            · skip
              exact absurd h957 (by decide)
          refine z_icmp_le (pc := 937) (tgt := 944) hC dL_law_937 (by decide) (fun h937 => ?_) (fun h937 => ?_)
          · skip
            have g937 := Int32.not_lt.mpr h937
            refine z_iconst (pc := 944) (v := 0) hC dL_law_944 rfl ?_
            refine z_icmp_eq (pc := 945) (tgt := 950) hC dL_law_945 (by decide) (fun h945 => ?_) (fun h945 => ?_)
            · skip
              exact J950
            · skip
              exact absurd (show zB ob = 0 from by rw [hob2, decide_eq_false (Int32.not_lt.mpr h937)]; rfl) h945
          · skip
            have g937 := Int32.not_le.mp h937
            refine z_iconst (pc := 940) (v := 1) hC dL_law_940 rfl ?_
            refine z_goto (pc := 941) (tgt := 945) hC dL_law_941 (by decide) ?_
            refine z_icmp_eq (pc := 945) (tgt := 950) hC dL_law_945 (by decide) (fun h945 => ?_) (fun h945 => ?_)
            · skip
              exact J950
            · skip
              exact absurd (show zB ob = 1 from by rw [hob2, decide_eq_true (Int32.not_le.mp h937)]; rfl) h945
      refine z_icmp_ge (pc := 875) (tgt := 891) hC dL_law_875 (by decide) (fun h875 => ?_) (fun h875 => ?_)
      · skip
        have g875 := Int32.not_lt.mpr h875
        refine z_iconst (pc := 891) (v := 0) hC dL_law_891 rfl ?_
        refine z_eqI (y := mv) (by rw [hmv, tMv hO h1 h39, if_neg (Int32.not_lt.mpr h875)]) ?_
        exact J892
      · skip
        have g875 := Int32.not_le.mp h875
        refine z_iload (pc := 878) hC 3 dL_law_878 rfl ?_
        refine z_iconst (pc := 880) (v := 2) hC dL_law_880 rfl ?_
        refine z_iload (pc := 881) hC 10 dL_law_881 rfl ?_
        refine z_imul (pc := 883) hC dL_law_883 ?_
        refine z_iadd (pc := 884) hC dL_law_884 ?_
        refine z_iload (pc := 885) hC 0 dL_law_885 rfl ?_
        refine z_isub (pc := 887) hC dL_law_887 ?_
        refine z_goto (pc := 888) (tgt := 892) hC dL_law_888 (by decide) ?_
        refine z_eqI (y := mv) (by rw [hmv, tMv hO h1 h39, if_pos (Int32.not_le.mp h875)]) ?_
        exact J892
    · skip
      exact absurd h861 (by decide)
  refine z_iload (pc := 798) hC 2 dL_law_798 rfl ?_
  refine z_if_eq (pc := 800) (tgt := 823) hC dL_law_800 (by decide) (fun h800 => ?_) (fun h800 => ?_)
  · skip
    have g800 := zB_f h800
    refine z_iload (pc := 823) hC 0 dL_law_823 rfl ?_
    refine z_iload (pc := 825) hC 3 dL_law_825 rfl ?_
    refine z_iconst (pc := 827) (v := 2) hC dL_law_827 rfl ?_
    refine z_iload (pc := 828) hC 10 dL_law_828 rfl ?_
    refine z_imul (pc := 830) hC dL_law_830 ?_
    refine z_iadd (pc := 831) hC dL_law_831 ?_
    refine z_icmp_lt (pc := 832) (tgt := 852) hC dL_law_832 (by decide) (fun h832 => ?_) (fun h832 => ?_)
    · skip
      have g832 := Int32.not_le.mpr h832
      exact absurd h832 (tUs_sh hO h1 h39 g800).1
    · skip
      have g832 := Int32.not_lt.mp h832
      refine z_iload (pc := 835) hC 0 dL_law_835 rfl ?_
      refine z_iload (pc := 837) hC 3 dL_law_837 rfl ?_
      refine z_iconst (pc := 839) (v := 2) hC dL_law_839 rfl ?_
      refine z_iload (pc := 840) hC 10 dL_law_840 rfl ?_
      refine z_imul (pc := 842) hC dL_law_842 ?_
      refine z_iadd (pc := 843) hC dL_law_843 ?_
      refine z_icmp_le (pc := 844) (tgt := 854) hC dL_law_844 (by decide) (fun h844 => ?_) (fun h844 => ?_)
      · skip
        have g844 := Int32.not_lt.mpr h844
        exact J854
      · skip
        have g844 := Int32.not_le.mp h844
        refine z_iload (pc := 847) hC 1 dL_law_847 rfl ?_
        refine z_if_ne (pc := 849) (tgt := 854) hC dL_law_849 (by decide) (fun h849 => ?_) (fun h849 => ?_)
        · skip
          have g849 := zB_t h849
          exact J854
        · skip
          have g849 := zB_f h849
          have y := hsq (by rw [g800]; exact (tUs_sh hO h1 h39 g800).2 (Int32.not_le.mp h844))
          rw [g849] at y
          cases y
  · skip
    have g800 := zB_t h800
    refine z_iload (pc := 803) hC 0 dL_law_803 rfl ?_
    refine z_iload_n (pc := 805) hC 8 dL_law_805 rfl rfl ?_
    refine z_icmp_gt (pc := 806) (tgt := 852) hC dL_law_806 (by decide) (fun h806 => ?_) (fun h806 => ?_)
    · skip
      have g806 := Int32.not_le.mpr h806
      exact absurd h806 (tUs_gr hO h1 h39 g800).1
    · skip
      have g806 := Int32.not_lt.mp h806
      refine z_iload (pc := 809) hC 0 dL_law_809 rfl ?_
      refine z_iload_n (pc := 811) hC 8 dL_law_811 rfl rfl ?_
      refine z_icmp_ge (pc := 812) (tgt := 854) hC dL_law_812 (by decide) (fun h812 => ?_) (fun h812 => ?_)
      · skip
        have g812 := Int32.not_lt.mpr h812
        exact J854
      · skip
        have g812 := Int32.not_le.mp h812
        refine z_iload (pc := 815) hC 1 dL_law_815 rfl ?_
        refine z_if_ne (pc := 817) (tgt := 854) hC dL_law_817 (by decide) (fun h817 => ?_) (fun h817 => ?_)
        · skip
          have g817 := zB_t h817
          exact J854
        · skip
          have g817 := zB_f h817
          have y := hsq (by rw [g800]; exact (tUs_gr hO h1 h39 g800).2 (Int32.not_le.mp h812))
          rw [g817] at y
          cases y
end ZL3W
