section ZL2W
set_option maxHeartbeats 4000000 in
set_option maxRecDepth 100000 in
theorem zLw_l2 {C : zC} {g : zG} {sa : Nat → Nat} {N b L : Nat} {xs : Nat → Int32} (hW : zLW C g sa N b L xs) {m : Nat} (h1 : 1 ≤ m) (h2 : m ≤ 6) {q : tP} {σ : zS} (T : tT m 0 q σ) (hO : tOk m q) (hR : tR q = 0) (hJ : tJ q = 0) (hK : ∀ (kc ks : Nat) (I : Nat → Nat → Int32) (P : Nat → Nat → Option Nat) (J : Nat → Nat → Int64) (sq : Bool), kc ≤ 500 → ks ≤ 6000 → zCl σ I P → tAr q I → ((∀ j, j < m → tCd (tGr m q) m q j) → sq = true) → zJ C g N 24 kc ks I P J 798 [(14, .int (tUs m q m)), (15, .int (zB sq)), (16, .int (zB (tGr m q))), (17, .int (tIn q)), (18, .int (tEn m q m)), (0, .ref b), (1, .ref (g.1 80)), (2, .int (nI m)), (3, .int (tW q)), (4, .int (tG q)), (5, .int (tA q)), (6, .ref (g.1 95)), (7, .ref (g.1 96)), (8, .ref (g.1 97)), (9, .ref (g.1 98)), (10, .ref (g.1 99))] []) :
    ∀ (zf k kc ks : Nat) (I : Nat → Nat → Int32) (P : Nat → Nat → Option Nat) (J : Nat → Nat → Int64) (sq : Bool), m < k + zf → k ≤ m → kc + 10 * (m - k) ≤ 500 → ks + 60 * (m - k) ≤ 6000 → zCl σ I P → tAr q I → ((∀ j, j < k → tCd (tGr m q) m q j) → sq = true) → zJ C g N 24 kc ks I P J 511 [(19, .int (nI k)), (14, .int (tUs m q k)), (15, .int (zB sq)), (16, .int (zB (tGr m q))), (17, .int (tIn q)), (18, .int (tEn m q k)), (0, .ref b), (1, .ref (g.1 80)), (2, .int (nI m)), (3, .int (tW q)), (4, .int (tG q)), (5, .int (tA q)), (6, .ref (g.1 95)), (7, .ref (g.1 96)), (8, .ref (g.1 97)), (9, .ref (g.1 98)), (10, .ref (g.1 99))] [] := by
  intro zf
  have h39 : m ≤ 39 := by omega
  induction zf with
  | zero =>
    intro k kc ks I P J sq hz hkm
    exact absurd hz (by omega)
  | succ zf ih =>
    intro k kc ks I P J sq hz hkm hkc hks hcl hAr hsq
    obtain ⟨hC, hX, hst, hRm, hx, hbs, hA, hL⟩ := id hW
    refine z_iload (pc := 511) hC 0 dL_law_511 rfl ?_
    refine z_iload_n (pc := 513) hC 8 dL_law_513 rfl rfl ?_
    refine z_icmp_ge (pc := 514) (tgt := 798) hC dL_law_514 (by decide) (fun h514 => ?_) (fun h514 => ?_)
    · skip
      have g514 := Int32.not_lt.mpr h514
      have y := (zi_le _ _).mp h514
      rw [nI_toInt (by omega), nI_toInt (by omega)] at y
      have ek : k = m := by omega
      rw [ek] at hsq ⊢
      refine z_lvs (lv' := [(14, .int (tUs m q m)), (15, .int (zB sq)), (16, .int (zB (tGr m q))), (17, .int (tIn q)), (18, .int (tEn m q m)), (0, .ref b), (1, .ref (g.1 80)), (2, .int (nI m)), (3, .int (tW q)), (4, .int (tG q)), (5, .int (tA q)), (6, .ref (g.1 95)), (7, .ref (g.1 96)), (8, .ref (g.1 97)), (9, .ref (g.1 98)), (10, .ref (g.1 99))]) [1, 2, 3, 4, 5, 6, 7, 8, 9, 10, 11, 12, 13, 14, 15, 16] rfl ?_
      exact hK kc ks I P J sq (by omega) (by omega) hcl hAr hsq
    · skip
      have g514 := Int32.not_le.mp h514
      have hk : k < m := by
        refine Nat.lt_of_not_le (fun y => h514 ((zi_le _ _).mpr ?_))
        rw [nI_toInt (by omega), nI_toInt (by omega)]
        omega
      have hlt6 : k < 6 := by omega
      refine z_aload_n (pc := 517) hC 7 dL_law_517 rfl rfl z_isr_r ?_
      refine z_iload (pc := 518) hC 0 dL_law_518 rfl ?_
      refine z_iconst (pc := 520) (v := 1) hC dL_law_520 rfl ?_
      refine z_iadd (pc := 521) hC dL_law_521 ?_
      refine zr_get (pc := 522) (st := []) (f := (fun b => sWD σ b)) (r := tF m q k) (x := (nI k) + 1) hW hcl (k + 1) (nI_1 k) (kX5_width C.2.1 hst g sa N I P J hcl ((nI k) + 1)) zkX5_width zm_3_80 (by decide) (tT_sh T (by decide) hk) (tT_wd T hR hO hk) ⟨by omega, by omega⟩ (Nat.le_of_ble_eq_true rfl) dL_law_522 (fun I1 P1 J1 hc1 hk1 => ?_)
      have ha1 := hAr.k hk1
      refine z_istore (pc := 525) (lv' := [(20, .int (tF m q k)), (19, .int (nI k)), (14, .int (tUs m q k)), (15, .int (zB sq)), (16, .int (zB (tGr m q))), (17, .int (tIn q)), (18, .int (tEn m q k)), (0, .ref b), (1, .ref (g.1 80)), (2, .int (nI m)), (3, .int (tW q)), (4, .int (tG q)), (5, .int (tA q)), (6, .ref (g.1 95)), (7, .ref (g.1 96)), (8, .ref (g.1 97)), (9, .ref (g.1 98)), (10, .ref (g.1 99))]) hC dL_law_525 (by decide) rfl ?_
      refine z_aload (pc := 527) hC 16 dL_law_527 rfl z_isr_r ?_
      refine z_iload (pc := 529) hC 1 dL_law_529 rfl ?_
      refine z_iaN (pc := 531) hC k (x := tB q k) rfl (z_lt hC (by decide)) rfl hlt6 (by decide) ((ha1) k).2.2.2.1 dL_law_531 ?_
      refine z_aload (pc := 532) hC 13 dL_law_532 rfl z_isr_r ?_
      refine z_iload (pc := 534) hC 1 dL_law_534 rfl ?_
      refine z_iaN (pc := 536) hC k (x := tLo q k) rfl (z_lt hC (by decide)) rfl hlt6 (by decide) ((ha1) k).1 dL_law_536 ?_
      refine z_aload (pc := 537) hC 14 dL_law_537 rfl z_isr_r ?_
      refine z_iload (pc := 539) hC 1 dL_law_539 rfl ?_
      refine z_iaN (pc := 541) hC k (x := tHi q k) rfl (z_lt hC (by decide)) rfl hlt6 (by decide) ((ha1) k).2.1 dL_law_541 ?_
      refine z_cS (pc := 542) (st := []) hC [.int (tB q k), .int (tLo q k), .int (tHi q k)] (kL_limit C.2.1 g N I1 P1 J1 (tB q k) (tLo q k) (tHi q k)) zkL_limit zm_3_141 ⟨rfl, rfl⟩ rfl rfl hRm ⟨Nat.le_of_ble_eq_true rfl, Nat.le_of_ble_eq_true rfl⟩ (Nat.le_of_ble_eq_true rfl) ⟨by show _ ≤ 600130; omega, by show _ ≤ 7301080; omega⟩ dL_law_542 ?_
      refine z_istore (pc := 545) (lv' := [(21, .int (zlim (tB q k) (tLo q k) (tHi q k))), (20, .int (tF m q k)), (19, .int (nI k)), (14, .int (tUs m q k)), (15, .int (zB sq)), (16, .int (zB (tGr m q))), (17, .int (tIn q)), (18, .int (tEn m q k)), (0, .ref b), (1, .ref (g.1 80)), (2, .int (nI m)), (3, .int (tW q)), (4, .int (tG q)), (5, .int (tA q)), (6, .ref (g.1 95)), (7, .ref (g.1 96)), (8, .ref (g.1 97)), (9, .ref (g.1 98)), (10, .ref (g.1 99))]) hC dL_law_545 (by decide) rfl ?_
      refine z_iload (pc := 547) hC 1 dL_law_547 rfl ?_
      refine z_iload (pc := 549) hC 1 dL_law_549 rfl ?_
      refine z_aload (pc := 551) hC 14 dL_law_551 rfl z_isr_r ?_
      refine z_iload (pc := 553) hC 2 dL_law_553 rfl ?_
      refine z_iaN (pc := 555) hC k (x := tLo q k) rfl (z_lt hC (by decide)) rfl hlt6 (by decide) ((ha1) k).1 dL_law_555 ?_
      refine z_aload (pc := 556) hC 15 dL_law_556 rfl z_isr_r ?_
      refine z_iload (pc := 558) hC 2 dL_law_558 rfl ?_
      refine z_iaN (pc := 560) hC k (x := tHi q k) rfl (z_lt hC (by decide)) rfl hlt6 (by decide) ((ha1) k).2.1 dL_law_560 ?_
      refine z_cS (pc := 561) (st := [.int (tF m q k)]) hC [.int (tF m q k), .int (tLo q k), .int (tHi q k)] (kL_limit C.2.1 g N I1 P1 J1 (tF m q k) (tLo q k) (tHi q k)) zkL_limit zm_3_141 ⟨rfl, rfl⟩ rfl rfl hRm ⟨Nat.le_of_ble_eq_true rfl, Nat.le_of_ble_eq_true rfl⟩ (Nat.le_of_ble_eq_true rfl) ⟨by show _ ≤ 600130; omega, by show _ ≤ 7301080; omega⟩ dL_law_561 ?_
      refine z_icmp_ne (pc := 564) (tgt := 600) hC dL_law_564 (by decide) (fun h564 => ?_) (fun h564 => ?_)
      · skip
        exact absurd (tF_lim hO h1 h39 hk).symm h564
      · skip
        refine z_iload (pc := 567) hC 5 dL_law_567 rfl ?_
        have J589 : zJ C g N 24 (kc + 2) (ks + 12) I1 P1 J1 589 [(21, .int (zlim (tB q k) (tLo q k) (tHi q k))), (20, .int (tF m q k)), (19, .int (nI k)), (14, .int (tUs m q k)), (15, .int (zB sq)), (16, .int (zB (tGr m q))), (17, .int (tIn q)), (18, .int (tEn m q k)), (0, .ref b), (1, .ref (g.1 80)), (2, .int (nI m)), (3, .int (tW q)), (4, .int (tG q)), (5, .int (tA q)), (6, .ref (g.1 95)), (7, .ref (g.1 96)), (8, .ref (g.1 97)), (9, .ref (g.1 98)), (10, .ref (g.1 99))] [] := by
          refine z_aload_n (pc := 589) hC 9 dL_law_589 rfl rfl z_isr_r ?_
          refine z_iload (pc := 590) hC 2 dL_law_590 rfl ?_
          refine z_iconst (pc := 592) (v := 1) hC dL_law_592 rfl ?_
          refine z_iadd (pc := 593) hC dL_law_593 ?_
          refine zr_get (pc := 594) (st := []) (f := (fun b => nI (sLi σ b))) (r := 0) (x := (nI k) + 1) hW hc1 (k + 1) (nI_1 k) (kX5_lineOf C.2.1 hst g sa N I1 P1 J1 hc1 ((nI k) + 1)) zkX5_lineOf zm_3_92 (by decide) (tT_sh T (by decide) hk) (by show nI (sLi σ (k + 1)) = 0; rw [tT_li T hR hk]; rfl) ⟨by omega, by omega⟩ (Nat.le_of_ble_eq_true rfl) dL_law_594 (fun I2 P2 J2 hc2 hk2 => ?_)
          have ha2 := ha1.k hk2
          refine z_if_eq (pc := 597) (tgt := 602) hC dL_law_597 (by decide) (fun h597 => ?_) (fun h597 => ?_)
          · skip
            refine z_iload (pc := 602) hC 3 dL_law_602 rfl ?_
            refine z_iload (pc := 604) hC 1 dL_law_604 rfl ?_
            refine z_iconst (pc := 606) (v := 2) hC dL_law_606 rfl ?_
            refine z_aload (pc := 607) hC 16 dL_law_607 rfl z_isr_r ?_
            refine z_iload (pc := 609) hC 2 dL_law_609 rfl ?_
            refine z_iaN (pc := 611) hC k (x := tM q k) rfl (z_lt hC (by decide)) rfl hlt6 (by decide) ((ha2) k).2.2.1 dL_law_611 ?_
            refine z_imul (pc := 612) hC dL_law_612 ?_
            refine z_iadd (pc := 613) hC dL_law_613 ?_
            refine z_iadd (pc := 614) hC dL_law_614 ?_
            refine z_istore (pc := 615) (lv' := [(14, .int ((tUs m q k) + ((tF m q k) + (2 * (tM q k))))), (21, .int (zlim (tB q k) (tLo q k) (tHi q k))), (20, .int (tF m q k)), (19, .int (nI k)), (15, .int (zB sq)), (16, .int (zB (tGr m q))), (17, .int (tIn q)), (18, .int (tEn m q k)), (0, .ref b), (1, .ref (g.1 80)), (2, .int (nI m)), (3, .int (tW q)), (4, .int (tG q)), (5, .int (tA q)), (6, .ref (g.1 95)), (7, .ref (g.1 96)), (8, .ref (g.1 97)), (9, .ref (g.1 98)), (10, .ref (g.1 99))]) hC dL_law_615 (by decide) rfl ?_
            refine z_iload (pc := 617) hC 5 dL_law_617 rfl ?_
            have J721 : ∀ (q' : Bool) (hq' : (∀ j, j < k + 1 → tCd (tGr m q) m q j) → q' = true), zJ C g N 24 (kc + 2 + 2) (ks + 12 + 12) I2 P2 J2 721 [(15, .int (zB q')), (14, .int ((tUs m q k) + ((tF m q k) + (2 * (tM q k))))), (21, .int (zlim (tB q k) (tLo q k) (tHi q k))), (20, .int (tF m q k)), (19, .int (nI k)), (16, .int (zB (tGr m q))), (17, .int (tIn q)), (18, .int (tEn m q k)), (0, .ref b), (1, .ref (g.1 80)), (2, .int (nI m)), (3, .int (tW q)), (4, .int (tG q)), (5, .int (tA q)), (6, .ref (g.1 95)), (7, .ref (g.1 96)), (8, .ref (g.1 97)), (9, .ref (g.1 98)), (10, .ref (g.1 99))] [] := by
              intro q' hq'
              refine z_aload_n (pc := 721) hC 9 dL_law_721 rfl rfl z_isr_r ?_
              refine z_iload (pc := 722) hC 4 dL_law_722 rfl ?_
              refine z_iconst (pc := 724) (v := 1) hC dL_law_724 rfl ?_
              refine z_iadd (pc := 725) hC dL_law_725 ?_
              refine zr_get (pc := 726) (st := []) (f := (fun b => sX σ b)) (r := tX m q k) (x := (nI k) + 1) hW hc2 (k + 1) (nI_1 k) (kX5_x C.2.1 hst g sa N I2 P2 J2 hc2 ((nI k) + 1)) zkX5_x zm_3_67 (by decide) (tT_sh T (by decide) hk) (tT_x T hR hO hk) ⟨by omega, by omega⟩ (Nat.le_of_ble_eq_true rfl) dL_law_726 (fun I3 P3 J3 hc3 hk3 => ?_)
              have ha3 := ha2.k hk3
              refine z_iload (pc := 729) hC 7 dL_law_729 rfl ?_
              refine z_iload (pc := 731) hC 4 dL_law_731 rfl ?_
              have J742 : ∀ (z : Int32) (hz : tX m q k = tEn m q k + z + tM q k), zJ C g N 24 (kc + 2 + 2 + 2) (ks + 12 + 12 + 12) I3 P3 J3 742 [(15, .int (zB q')), (14, .int ((tUs m q k) + ((tF m q k) + (2 * (tM q k))))), (21, .int (zlim (tB q k) (tLo q k) (tHi q k))), (20, .int (tF m q k)), (19, .int (nI k)), (16, .int (zB (tGr m q))), (17, .int (tIn q)), (18, .int (tEn m q k)), (0, .ref b), (1, .ref (g.1 80)), (2, .int (nI m)), (3, .int (tW q)), (4, .int (tG q)), (5, .int (tA q)), (6, .ref (g.1 95)), (7, .ref (g.1 96)), (8, .ref (g.1 97)), (9, .ref (g.1 98)), (10, .ref (g.1 99))] [.int z, .int (tEn m q k), .int (tX m q k)] := by
                intro z hz
                refine z_iadd (pc := 742) hC dL_law_742 ?_
                refine z_aload (pc := 743) hC 16 dL_law_743 rfl z_isr_r ?_
                refine z_iload (pc := 745) hC 4 dL_law_745 rfl ?_
                refine z_iaN (pc := 747) hC k (x := tM q k) rfl (z_lt hC (by decide)) rfl hlt6 (by decide) ((ha3) k).2.2.1 dL_law_747 ?_
                refine z_iadd (pc := 748) hC dL_law_748 ?_
                refine z_icmp_ne (pc := 749) (tgt := 771) hC dL_law_749 (by decide) (fun h749 => ?_) (fun h749 => ?_)
                · skip
                  exact absurd hz h749
                · skip
                  refine z_aload_n (pc := 752) hC 9 dL_law_752 rfl rfl z_isr_r ?_
                  refine z_iload (pc := 753) hC 4 dL_law_753 rfl ?_
                  refine z_iconst (pc := 755) (v := 1) hC dL_law_755 rfl ?_
                  refine z_iadd (pc := 756) hC dL_law_756 ?_
                  refine zr_get (pc := 757) (st := []) (f := (fun b => sY σ b)) (r := tA q + tM q k) (x := (nI k) + 1) hW hc3 (k + 1) (nI_1 k) (kX5_y C.2.1 hst g sa N I3 P3 J3 hc3 ((nI k) + 1)) zkX5_y zm_3_76 (by decide) (tT_sh T (by decide) hk) (tT_y T hk (tT_l0 T hR _ _ _)) ⟨by omega, by omega⟩ (Nat.le_of_ble_eq_true rfl) dL_law_757 (fun I4 P4 J4 hc4 hk4 => ?_)
                  have ha4 := ha3.k hk4
                  refine z_iload (pc := 760) hC 13 dL_law_760 rfl ?_
                  refine z_aload (pc := 762) hC 16 dL_law_762 rfl z_isr_r ?_
                  refine z_iload (pc := 764) hC 4 dL_law_764 rfl ?_
                  refine z_iaN (pc := 766) hC k (x := tM q k) rfl (z_lt hC (by decide)) rfl hlt6 (by decide) ((ha4) k).2.2.1 dL_law_766 ?_
                  refine z_iadd (pc := 767) hC dL_law_767 ?_
                  refine z_icmp_eq (pc := 768) (tgt := 773) hC dL_law_768 (by decide) (fun h768 => ?_) (fun h768 => ?_)
                  · skip
                    refine z_aload_n (pc := 773) hC 9 dL_law_773 rfl rfl z_isr_r ?_
                    refine z_iload (pc := 774) hC 4 dL_law_774 rfl ?_
                    refine z_iconst (pc := 776) (v := 1) hC dL_law_776 rfl ?_
                    refine z_iadd (pc := 777) hC dL_law_777 ?_
                    refine zr_get (pc := 778) (st := []) (f := (fun b => sX σ b)) (r := tX m q k) (x := (nI k) + 1) hW hc4 (k + 1) (nI_1 k) (kX5_x C.2.1 hst g sa N I4 P4 J4 hc4 ((nI k) + 1)) zkX5_x zm_3_67 (by decide) (tT_sh T (by decide) hk) (tT_x T hR hO hk) ⟨by omega, by omega⟩ (Nat.le_of_ble_eq_true rfl) dL_law_778 (fun I5 P5 J5 hc5 hk5 => ?_)
                    have ha5 := ha4.k hk5
                    refine z_iload (pc := 781) hC 3 dL_law_781 rfl ?_
                    refine z_iadd (pc := 783) hC dL_law_783 ?_
                    refine z_aload (pc := 784) hC 16 dL_law_784 rfl z_isr_r ?_
                    refine z_iload (pc := 786) hC 4 dL_law_786 rfl ?_
                    refine z_iaN (pc := 788) hC k (x := tM q k) rfl (z_lt hC (by decide)) rfl hlt6 (by decide) ((ha5) k).2.2.1 dL_law_788 ?_
                    refine z_iadd (pc := 789) hC dL_law_789 ?_
                    refine z_istore (pc := 790) (lv' := [(18, .int (((tX m q k) + (tF m q k)) + (tM q k))), (15, .int (zB q')), (14, .int ((tUs m q k) + ((tF m q k) + (2 * (tM q k))))), (21, .int (zlim (tB q k) (tLo q k) (tHi q k))), (20, .int (tF m q k)), (19, .int (nI k)), (16, .int (zB (tGr m q))), (17, .int (tIn q)), (0, .ref b), (1, .ref (g.1 80)), (2, .int (nI m)), (3, .int (tW q)), (4, .int (tG q)), (5, .int (tA q)), (6, .ref (g.1 95)), (7, .ref (g.1 96)), (8, .ref (g.1 97)), (9, .ref (g.1 98)), (10, .ref (g.1 99))]) hC dL_law_790 (by decide) rfl ?_
                    refine z_iinc (pc := 792) (v := nI (k + 1)) (lv' := [(19, .int (nI (k + 1))), (18, .int (((tX m q k) + (tF m q k)) + (tM q k))), (15, .int (zB q')), (14, .int ((tUs m q k) + ((tF m q k) + (2 * (tM q k))))), (21, .int (zlim (tB q k) (tLo q k) (tHi q k))), (20, .int (tF m q k)), (16, .int (zB (tGr m q))), (17, .int (tIn q)), (0, .ref b), (1, .ref (g.1 80)), (2, .int (nI m)), (3, .int (tW q)), (4, .int (tG q)), (5, .int (tA q)), (6, .ref (g.1 95)), (7, .ref (g.1 96)), (8, .ref (g.1 97)), (9, .ref (g.1 98)), (10, .ref (g.1 99))]) hC 5 dL_law_792 rfl (nI_1 k) (by decide) rfl ?_
                    refine z_goto (pc := 795) (tgt := 511) hC dL_law_795 (by decide) ?_
                    refine z_lvs (lv' := [(19, .int (nI (k + 1))), (14, .int ((tUs m q k) + ((tF m q k) + (2 * (tM q k))))), (15, .int (zB q')), (16, .int (zB (tGr m q))), (17, .int (tIn q)), (18, .int (((tX m q k) + (tF m q k)) + (tM q k))), (0, .ref b), (1, .ref (g.1 80)), (2, .int (nI m)), (3, .int (tW q)), (4, .int (tG q)), (5, .int (tA q)), (6, .ref (g.1 95)), (7, .ref (g.1 96)), (8, .ref (g.1 97)), (9, .ref (g.1 98)), (10, .ref (g.1 99))]) [0, 3, 2, 6, 7, 1, 8, 9, 10, 11, 12, 13, 14, 15, 16, 17, 18] rfl ?_
                    exact ih (k + 1) (kc + 2 + 2 + 2 + 2 + 2) (ks + 12 + 12 + 12 + 12 + 12) I5 P5 J5 q' (by omega) (by omega) (by omega) (by omega) hc5 ha5 hq'
                  · skip
                    exact absurd rfl h768
              refine z_if_le (pc := 733) (tgt := 741) hC dL_law_733 (by decide) (fun h733 => ?_) (fun h733 => ?_)
              · skip
                have g733 := Int32.not_lt.mpr h733
                refine z_iconst (pc := 741) (v := 0) hC dL_law_741 rfl ?_
                have e0 : k = 0 := by
                  have y := (zi_le _ _).mp h733
                  rw [nI_toInt (by omega)] at y
                  have y0 : (0 : Int32).toInt = 0 := rfl
                  omega
                exact J742 0 (by rw [e0]; exact tX_0 hJ)
              · skip
                have g733 := Int32.not_le.mp h733
                refine z_iload (pc := 736) hC 12 dL_law_736 rfl ?_
                refine z_goto (pc := 738) (tgt := 742) hC dL_law_738 (by decide) ?_
                have e0 : k = k - 1 + 1 := by
                  have y : ¬ (nI k).toInt ≤ (0 : Int32).toInt := fun y => h733 ((zi_le _ _).mpr y)
                  rw [nI_toInt (by omega)] at y
                  have y0 : (0 : Int32).toInt = 0 := rfl
                  omega
                exact J742 (tG q) (by rw [e0]; exact tX_s hJ (k - 1))
            refine z_if_eq (pc := 619) (tgt := 674) hC dL_law_619 (by decide) (fun h619 => ?_) (fun h619 => ?_)
            · skip
              have g619 := zB_f h619
              have J718 : ∀ (c : Bool) (hcc : tCd false m q k → c = true), zJ C g N 24 (kc + 2 + 2) (ks + 12 + 12) I2 P2 J2 718 [(14, .int ((tUs m q k) + ((tF m q k) + (2 * (tM q k))))), (21, .int (zlim (tB q k) (tLo q k) (tHi q k))), (20, .int (tF m q k)), (19, .int (nI k)), (15, .int (zB sq)), (16, .int (zB (tGr m q))), (17, .int (tIn q)), (18, .int (tEn m q k)), (0, .ref b), (1, .ref (g.1 80)), (2, .int (nI m)), (3, .int (tW q)), (4, .int (tG q)), (5, .int (tA q)), (6, .ref (g.1 95)), (7, .ref (g.1 96)), (8, .ref (g.1 97)), (9, .ref (g.1 98)), (10, .ref (g.1 99))] [.int (zB c), .int (zB sq)] := by
                intro c hcc
                refine z_iand (pc := 718) hC dL_law_718 ?_
                refine z_eqI (zB_and sq c) ?_
                refine z_istore (pc := 719) (lv' := [(15, .int (zB (sq && c))), (14, .int ((tUs m q k) + ((tF m q k) + (2 * (tM q k))))), (21, .int (zlim (tB q k) (tLo q k) (tHi q k))), (20, .int (tF m q k)), (19, .int (nI k)), (16, .int (zB (tGr m q))), (17, .int (tIn q)), (18, .int (tEn m q k)), (0, .ref b), (1, .ref (g.1 80)), (2, .int (nI m)), (3, .int (tW q)), (4, .int (tG q)), (5, .int (tA q)), (6, .ref (g.1 95)), (7, .ref (g.1 96)), (8, .ref (g.1 97)), (9, .ref (g.1 98)), (10, .ref (g.1 99))]) hC dL_law_719 (by decide) rfl ?_
                refine J721 (sq && c) (fun z => ?_)
                rw [hsq (fun j hj => z j (by omega)), hcc (by have y := z k (by omega); rw [g619] at y; exact y)]
                rfl
              refine z_iload (pc := 674) hC 4 dL_law_674 rfl ?_
              refine z_iload (pc := 676) hC 2 dL_law_676 rfl ?_
              refine z_iconst (pc := 678) (v := 0) hC dL_law_678 rfl ?_
              refine z_aload (pc := 679) hC 14 dL_law_679 rfl z_isr_r ?_
              refine z_iload (pc := 681) hC 3 dL_law_681 rfl ?_
              refine z_iaN (pc := 683) hC k (x := tLo q k) rfl (z_lt hC (by decide)) rfl hlt6 (by decide) ((ha2) k).1 dL_law_683 ?_
              refine z_aload (pc := 684) hC 15 dL_law_684 rfl z_isr_r ?_
              refine z_iload (pc := 686) hC 3 dL_law_686 rfl ?_
              refine z_iaN (pc := 688) hC k (x := tHi q k) rfl (z_lt hC (by decide)) rfl hlt6 (by decide) ((ha2) k).2.1 dL_law_688 ?_
              refine z_cS (pc := 689) (st := [.int (tF m q k), .int (zB sq)]) hC [.int 0, .int (tLo q k), .int (tHi q k)] (kL_limit C.2.1 g N I2 P2 J2 0 (tLo q k) (tHi q k)) zkL_limit zm_3_141 ⟨rfl, rfl⟩ rfl rfl hRm ⟨Nat.le_of_ble_eq_true rfl, Nat.le_of_ble_eq_true rfl⟩ (Nat.le_of_ble_eq_true rfl) ⟨by show _ ≤ 600130; omega, by show _ ≤ 7301080; omega⟩ dL_law_689 ?_
              refine z_icmp_eq (pc := 692) (tgt := 713) hC dL_law_692 (by decide) (fun h692 => ?_) (fun h692 => ?_)
              · skip
                refine z_iconst (pc := 713) (v := 1) hC dL_law_713 rfl ?_
                refine z_goto (pc := 714) (tgt := 718) hC dL_law_714 (by decide) ?_
                exact J718 true (fun _ => rfl)
              · skip
                refine z_aload (pc := 695) hC 17 dL_law_695 rfl z_isr_r ?_
                refine z_iload (pc := 697) hC 3 dL_law_697 rfl ?_
                refine z_iaN (pc := 699) hC k (x := tB q k) rfl (z_lt hC (by decide)) rfl hlt6 (by decide) ((ha2) k).2.2.2.1 dL_law_699 ?_
                refine z_iload (pc := 700) hC 1 dL_law_700 rfl ?_
                refine z_icmp_lt (pc := 702) (tgt := 713) hC dL_law_702 (by decide) (fun h702 => ?_) (fun h702 => ?_)
                · skip
                  have g702 := Int32.not_le.mpr h702
                  refine z_iconst (pc := 713) (v := 1) hC dL_law_713 rfl ?_
                  refine z_goto (pc := 714) (tgt := 718) hC dL_law_714 (by decide) ?_
                  exact J718 true (fun _ => rfl)
                · skip
                  have g702 := Int32.not_lt.mp h702
                  refine z_aload (pc := 705) hC 17 dL_law_705 rfl z_isr_r ?_
                  refine z_iload (pc := 707) hC 3 dL_law_707 rfl ?_
                  refine z_iaN (pc := 709) hC k (x := tB q k) rfl (z_lt hC (by decide)) rfl hlt6 (by decide) ((ha2) k).2.2.2.1 dL_law_709 ?_
                  refine z_if_ne (pc := 710) (tgt := 717) hC dL_law_710 (by decide) (fun h710 => ?_) (fun h710 => ?_)
                  · skip
                    refine z_iconst (pc := 717) (v := 0) hC dL_law_717 rfl ?_
                    refine J718 false (fun z => ?_)
                    rcases z with z | z | z
                    · exact absurd z h692
                    · exact absurd z (Int32.not_lt.mpr (Int32.not_lt.mp h702))
                    · exact absurd z h710
                  · skip
                    refine z_iconst (pc := 713) (v := 1) hC dL_law_713 rfl ?_
                    refine z_goto (pc := 714) (tgt := 718) hC dL_law_714 (by decide) ?_
                    exact J718 true (fun _ => rfl)
            · skip
              have g619 := zB_t h619
              have J668 : ∀ (c : Bool) (hcc : tCd true m q k → c = true), zJ C g N 24 (kc + 2 + 2) (ks + 12 + 12) I2 P2 J2 668 [(14, .int ((tUs m q k) + ((tF m q k) + (2 * (tM q k))))), (21, .int (zlim (tB q k) (tLo q k) (tHi q k))), (20, .int (tF m q k)), (19, .int (nI k)), (15, .int (zB sq)), (16, .int (zB (tGr m q))), (17, .int (tIn q)), (18, .int (tEn m q k)), (0, .ref b), (1, .ref (g.1 80)), (2, .int (nI m)), (3, .int (tW q)), (4, .int (tG q)), (5, .int (tA q)), (6, .ref (g.1 95)), (7, .ref (g.1 96)), (8, .ref (g.1 97)), (9, .ref (g.1 98)), (10, .ref (g.1 99))] [.int (zB c), .int (zB sq)] := by
                intro c hcc
                refine z_iand (pc := 668) hC dL_law_668 ?_
                refine z_eqI (zB_and sq c) ?_
                refine z_istore (pc := 669) (lv' := [(15, .int (zB (sq && c))), (14, .int ((tUs m q k) + ((tF m q k) + (2 * (tM q k))))), (21, .int (zlim (tB q k) (tLo q k) (tHi q k))), (20, .int (tF m q k)), (19, .int (nI k)), (16, .int (zB (tGr m q))), (17, .int (tIn q)), (18, .int (tEn m q k)), (0, .ref b), (1, .ref (g.1 80)), (2, .int (nI m)), (3, .int (tW q)), (4, .int (tG q)), (5, .int (tA q)), (6, .ref (g.1 95)), (7, .ref (g.1 96)), (8, .ref (g.1 97)), (9, .ref (g.1 98)), (10, .ref (g.1 99))]) hC dL_law_669 (by decide) rfl ?_
                refine z_goto (pc := 671) (tgt := 721) hC dL_law_671 (by decide) ?_
                refine J721 (sq && c) (fun z => ?_)
                rw [hsq (fun j hj => z j (by omega)), hcc (by have y := z k (by omega); rw [g619] at y; exact y)]
                rfl
              refine z_iload (pc := 622) hC 4 dL_law_622 rfl ?_
              refine z_aload (pc := 624) hC 18 dL_law_624 rfl z_isr_r ?_
              refine z_iload (pc := 626) hC 3 dL_law_626 rfl ?_
              refine z_iaN (pc := 628) hC k (x := tGw q k) rfl (z_lt hC (by decide)) rfl hlt6 (by decide) ((ha2) k).2.2.2.2 dL_law_628 ?_
              refine z_if_eq (pc := 629) (tgt := 663) hC dL_law_629 (by decide) (fun h629 => ?_) (fun h629 => ?_)
              · skip
                refine z_iconst (pc := 663) (v := 1) hC dL_law_663 rfl ?_
                refine z_goto (pc := 664) (tgt := 668) hC dL_law_664 (by decide) ?_
                exact J668 true (fun _ => rfl)
              · skip
                refine z_iload (pc := 632) hC 2 dL_law_632 rfl ?_
                refine z_sipush (pc := 634) (v := 10000) hC dL_law_634 rfl ?_
                refine z_aload (pc := 637) hC 14 dL_law_637 rfl z_isr_r ?_
                refine z_iload (pc := 639) hC 3 dL_law_639 rfl ?_
                refine z_iaN (pc := 641) hC k (x := tLo q k) rfl (z_lt hC (by decide)) rfl hlt6 (by decide) ((ha2) k).1 dL_law_641 ?_
                refine z_aload (pc := 642) hC 15 dL_law_642 rfl z_isr_r ?_
                refine z_iload (pc := 644) hC 3 dL_law_644 rfl ?_
                refine z_iaN (pc := 646) hC k (x := tHi q k) rfl (z_lt hC (by decide)) rfl hlt6 (by decide) ((ha2) k).2.1 dL_law_646 ?_
                refine z_cS (pc := 647) (st := [.int (tF m q k), .int (zB sq)]) hC [.int 10000, .int (tLo q k), .int (tHi q k)] (kL_limit C.2.1 g N I2 P2 J2 10000 (tLo q k) (tHi q k)) zkL_limit zm_3_141 ⟨rfl, rfl⟩ rfl rfl hRm ⟨Nat.le_of_ble_eq_true rfl, Nat.le_of_ble_eq_true rfl⟩ (Nat.le_of_ble_eq_true rfl) ⟨by show _ ≤ 600130; omega, by show _ ≤ 7301080; omega⟩ dL_law_647 ?_
                refine z_icmp_eq (pc := 650) (tgt := 663) hC dL_law_650 (by decide) (fun h650 => ?_) (fun h650 => ?_)
                · skip
                  refine z_iconst (pc := 663) (v := 1) hC dL_law_663 rfl ?_
                  refine z_goto (pc := 664) (tgt := 668) hC dL_law_664 (by decide) ?_
                  exact J668 true (fun _ => rfl)
                · skip
                  refine z_aload (pc := 653) hC 17 dL_law_653 rfl z_isr_r ?_
                  refine z_iload (pc := 655) hC 3 dL_law_655 rfl ?_
                  refine z_iaN (pc := 657) hC k (x := tB q k) rfl (z_lt hC (by decide)) rfl hlt6 (by decide) ((ha2) k).2.2.2.1 dL_law_657 ?_
                  refine z_iload (pc := 658) hC 1 dL_law_658 rfl ?_
                  refine z_icmp_le (pc := 660) (tgt := 667) hC dL_law_660 (by decide) (fun h660 => ?_) (fun h660 => ?_)
                  · skip
                    have g660 := Int32.not_lt.mpr h660
                    refine z_iconst (pc := 667) (v := 0) hC dL_law_667 rfl ?_
                    refine J668 false (fun z => ?_)
                    rcases z with z | z | z
                    · exact absurd z h629
                    · exact absurd z h650
                    · exact absurd z (Int32.not_lt.mpr h660)
                  · skip
                    have g660 := Int32.not_le.mp h660
                    refine z_iconst (pc := 663) (v := 1) hC dL_law_663 rfl ?_
                    refine z_goto (pc := 664) (tgt := 668) hC dL_law_664 (by decide) ?_
                    exact J668 true (fun _ => rfl)
          · skip
            exact absurd h597 (by decide)
        refine z_if_eq (pc := 569) (tgt := 582) hC dL_law_569 (by decide) (fun h569 => ?_) (fun h569 => ?_)
        · skip
          have g569 := zB_f h569
          refine z_iload (pc := 582) hC 1 dL_law_582 rfl ?_
          refine z_iload (pc := 584) hC 0 dL_law_584 rfl ?_
          refine z_icmp_gt (pc := 586) (tgt := 600) hC dL_law_586 (by decide) (fun h586 => ?_) (fun h586 => ?_)
          · skip
            have g586 := Int32.not_le.mpr h586
            exact absurd h586 ((tF_st hO h1 h39 hk).2 g569)
          · skip
            have g586 := Int32.not_lt.mp h586
            exact J589
        · skip
          have g569 := zB_t h569
          refine z_iload (pc := 572) hC 1 dL_law_572 rfl ?_
          refine z_iload (pc := 574) hC 0 dL_law_574 rfl ?_
          refine z_icmp_ge (pc := 576) (tgt := 589) hC dL_law_576 (by decide) (fun h576 => ?_) (fun h576 => ?_)
          · skip
            have g576 := Int32.not_lt.mpr h576
            exact J589
          · skip
            have g576 := Int32.not_le.mp h576
            exact absurd (Int32.not_le.mp h576) ((tF_st hO h1 h39 hk).1 g569)
end ZL2W
