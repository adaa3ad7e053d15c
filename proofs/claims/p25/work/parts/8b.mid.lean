section ZLMW
set_option maxHeartbeats 4000000 in
set_option maxRecDepth 100000 in
theorem zLw_454 {C : zC} {g : zG} {sa : Nat → Nat} {N b L : Nat} {xs : Nat → Int32} (hW : zLW C g sa N b L xs) (hE : zLE C g) {m : Nat} (h1 : 1 ≤ m) (h2 : m ≤ 6) {wd gp pd : Int32} (kc ks : Nat) (σ : zS) (I : Nat → Nat → Int32) (P : Nat → Nat → Option Nat) (J : Nat → Nat → Int64) (hkc : kc ≤ 300) (hks : ks ≤ 4000) (hcl : zCl σ I P) (T : tT m 0 (tQ wd gp pd I) σ) (hO : tOk m (tQ wd gp pd I)) : zJ C g N 24 kc ks I P J 454 [(11, .int (tNd m (tQ wd gp pd I) m)), (0, .ref b), (1, .ref (g.1 80)), (2, .int (nI m)), (3, .int wd), (4, .int gp), (5, .int pd), (6, .ref (g.1 95)), (7, .ref (g.1 96)), (8, .ref (g.1 97)), (9, .ref (g.1 98)), (10, .ref (g.1 99))] [] := by
  obtain ⟨hC, hX, hst, hRm, hx, hbs, hA, hL⟩ := id hW
  refine z_iconst (pc := 454) (v := 2) hC dL_law_454 rfl ?_
  refine z_iload (pc := 455) hC 6 dL_law_455 rfl ?_
  refine z_imul (pc := 457) hC dL_law_457 ?_
  refine z_iload (pc := 458) hC 5 dL_law_458 rfl ?_
  refine z_iload_n (pc := 460) hC 3 dL_law_460 rfl rfl ?_
  refine z_iconst (pc := 461) (v := 1) hC dL_law_461 rfl ?_
  refine z_isub (pc := 462) hC dL_law_462 ?_
  refine z_imul (pc := 463) hC dL_law_463 ?_
  refine z_iadd (pc := 464) hC dL_law_464 ?_
  refine z_eqI (y := tUs m (tQ wd gp pd I) 0) rfl ?_
  refine z_istore (pc := 465) (lv' := [(14, .int (tUs m (tQ wd gp pd I) 0)), (11, .int (tNd m (tQ wd gp pd I) m)), (0, .ref b), (1, .ref (g.1 80)), (2, .int (nI m)), (3, .int wd), (4, .int gp), (5, .int pd), (6, .ref (g.1 95)), (7, .ref (g.1 96)), (8, .ref (g.1 97)), (9, .ref (g.1 98)), (10, .ref (g.1 99))]) hC dL_law_465 (by decide) rfl ?_
  refine z_iconst (pc := 467) (v := 1) hC dL_law_467 rfl ?_
  refine z_eqI (y := zB true) rfl ?_
  refine z_istore (pc := 468) (lv' := [(15, .int (zB true)), (14, .int (tUs m (tQ wd gp pd I) 0)), (11, .int (tNd m (tQ wd gp pd I) m)), (0, .ref b), (1, .ref (g.1 80)), (2, .int (nI m)), (3, .int wd), (4, .int gp), (5, .int pd), (6, .ref (g.1 95)), (7, .ref (g.1 96)), (8, .ref (g.1 97)), (9, .ref (g.1 98)), (10, .ref (g.1 99))]) hC dL_law_468 (by decide) rfl ?_
  refine z_iload (pc := 470) hC 2 dL_law_470 rfl ?_
  refine z_iload_n (pc := 472) hC 6 dL_law_472 rfl rfl ?_
  have J481 : zJ C g N 24 (kc) (ks) I P J 481 [(15, .int (zB true)), (14, .int (tUs m (tQ wd gp pd I) 0)), (11, .int (tNd m (tQ wd gp pd I) m)), (0, .ref b), (1, .ref (g.1 80)), (2, .int (nI m)), (3, .int wd), (4, .int gp), (5, .int pd), (6, .ref (g.1 95)), (7, .ref (g.1 96)), (8, .ref (g.1 97)), (9, .ref (g.1 98)), (10, .ref (g.1 99))] [.int (zB (tGr m (tQ wd gp pd I)))] := by
    refine z_istore (pc := 481) (lv' := [(16, .int (zB (tGr m (tQ wd gp pd I)))), (15, .int (zB true)), (14, .int (tUs m (tQ wd gp pd I) 0)), (11, .int (tNd m (tQ wd gp pd I) m)), (0, .ref b), (1, .ref (g.1 80)), (2, .int (nI m)), (3, .int wd), (4, .int gp), (5, .int pd), (6, .ref (g.1 95)), (7, .ref (g.1 96)), (8, .ref (g.1 97)), (9, .ref (g.1 98)), (10, .ref (g.1 99))]) hC dL_law_481 (by decide) rfl ?_
    refine z_iload_n (pc := 483) hC 7 dL_law_483 rfl rfl ?_
    refine z_iconst (pc := 484) (v := 2) hC dL_law_484 rfl ?_
    refine z_iload (pc := 485) hC 9 dL_law_485 rfl ?_
    refine z_imul (pc := 487) hC dL_law_487 ?_
    refine z_isub (pc := 488) hC dL_law_488 ?_
    have J502 : zJ C g N 24 (kc) (ks) I P J 502 [(16, .int (zB (tGr m (tQ wd gp pd I)))), (15, .int (zB true)), (14, .int (tUs m (tQ wd gp pd I) 0)), (11, .int (tNd m (tQ wd gp pd I) m)), (0, .ref b), (1, .ref (g.1 80)), (2, .int (nI m)), (3, .int wd), (4, .int gp), (5, .int pd), (6, .ref (g.1 95)), (7, .ref (g.1 96)), (8, .ref (g.1 97)), (9, .ref (g.1 98)), (10, .ref (g.1 99))] [.int (tIn (tQ wd gp pd I))] := by
      refine z_istore (pc := 502) (lv' := [(17, .int (tIn (tQ wd gp pd I))), (16, .int (zB (tGr m (tQ wd gp pd I)))), (15, .int (zB true)), (14, .int (tUs m (tQ wd gp pd I) 0)), (11, .int (tNd m (tQ wd gp pd I) m)), (0, .ref b), (1, .ref (g.1 80)), (2, .int (nI m)), (3, .int wd), (4, .int gp), (5, .int pd), (6, .ref (g.1 95)), (7, .ref (g.1 96)), (8, .ref (g.1 97)), (9, .ref (g.1 98)), (10, .ref (g.1 99))]) hC dL_law_502 (by decide) rfl ?_
      refine z_iload (pc := 504) hC 10 dL_law_504 rfl ?_
      refine z_eqI (y := tEn m (tQ wd gp pd I) 0) rfl ?_
      refine z_istore (pc := 506) (lv' := [(18, .int (tEn m (tQ wd gp pd I) 0)), (17, .int (tIn (tQ wd gp pd I))), (16, .int (zB (tGr m (tQ wd gp pd I)))), (15, .int (zB true)), (14, .int (tUs m (tQ wd gp pd I) 0)), (11, .int (tNd m (tQ wd gp pd I) m)), (0, .ref b), (1, .ref (g.1 80)), (2, .int (nI m)), (3, .int wd), (4, .int gp), (5, .int pd), (6, .ref (g.1 95)), (7, .ref (g.1 96)), (8, .ref (g.1 97)), (9, .ref (g.1 98)), (10, .ref (g.1 99))]) hC dL_law_506 (by decide) rfl ?_
      refine z_iconst (pc := 508) (v := 0) hC dL_law_508 rfl ?_
      refine z_eqI (y := nI 0) rfl ?_
      refine z_istore (pc := 509) (lv' := [(19, .int (nI 0)), (18, .int (tEn m (tQ wd gp pd I) 0)), (17, .int (tIn (tQ wd gp pd I))), (16, .int (zB (tGr m (tQ wd gp pd I)))), (15, .int (zB true)), (14, .int (tUs m (tQ wd gp pd I) 0)), (11, .int (tNd m (tQ wd gp pd I) m)), (0, .ref b), (1, .ref (g.1 80)), (2, .int (nI m)), (3, .int wd), (4, .int gp), (5, .int pd), (6, .ref (g.1 95)), (7, .ref (g.1 96)), (8, .ref (g.1 97)), (9, .ref (g.1 98)), (10, .ref (g.1 99))]) hC dL_law_509 (by decide) rfl ?_
      refine z_lvs (lv' := [(19, .int (nI 0)), (14, .int (tUs m (tQ wd gp pd I) 0)), (15, .int (zB true)), (16, .int (zB (tGr m (tQ wd gp pd I)))), (17, .int (tIn (tQ wd gp pd I))), (18, .int (tEn m (tQ wd gp pd I) 0)), (0, .ref b), (1, .ref (g.1 80)), (2, .int (nI m)), (3, .int wd), (4, .int gp), (5, .int pd), (6, .ref (g.1 95)), (7, .ref (g.1 96)), (8, .ref (g.1 97)), (9, .ref (g.1 98)), (10, .ref (g.1 99))]) [0, 5, 4, 3, 2, 1, 7, 8, 9, 10, 11, 12, 13, 14, 15, 16, 17] rfl ?_
      exact zLw_l2 (q := (tQ wd gp pd I)) hW h1 h2 T hO rfl rfl (fun kc ks I9 P9 J9 sq a1 a2 a3 a4 a5 => zLw_l3 (q := (tQ wd gp pd I)) hW hE h1 h2 T hO rfl rfl kc ks I9 P9 J9 sq a1 a2 a3 a4 a5) (m + 1) 0 kc ks I P J true (by omega) (Nat.zero_le _) (by omega) (by omega) hcl (fun j => ⟨rfl, rfl, rfl, rfl, rfl⟩) (fun _ => rfl)
    refine z_if_ge (pc := 489) (tgt := 496) hC dL_law_489 (by decide) (fun h489 => ?_) (fun h489 => ?_)
    · skip
      have g489 := Int32.not_lt.mpr h489
      refine z_iload_n (pc := 496) hC 7 dL_law_496 rfl rfl ?_
      refine z_iconst (pc := 497) (v := 2) hC dL_law_497 rfl ?_
      refine z_iload (pc := 498) hC 9 dL_law_498 rfl ?_
      refine z_imul (pc := 500) hC dL_law_500 ?_
      refine z_isub (pc := 501) hC dL_law_501 ?_
      refine z_eqI (y := tIn (tQ wd gp pd I)) (by show wd - 2 * pd = (if wd - 2 * pd < 0 then 0 else wd - 2 * pd); rw [if_neg (Int32.not_lt.mpr h489)]) ?_
      exact J502
    · skip
      have g489 := Int32.not_le.mp h489
      refine z_iconst (pc := 492) (v := 0) hC dL_law_492 rfl ?_
      refine z_goto (pc := 493) (tgt := 502) hC dL_law_493 (by decide) ?_
      refine z_eqI (y := tIn (tQ wd gp pd I)) (by show (0 : Int32) = (if wd - 2 * pd < 0 then 0 else wd - 2 * pd); rw [if_pos (Int32.not_le.mp h489)]) ?_
      exact J502
  refine z_icmp_ge (pc := 473) (tgt := 480) hC dL_law_473 (by decide) (fun h473 => ?_) (fun h473 => ?_)
  · skip
    have g473 := Int32.not_lt.mpr h473
    refine z_iconst (pc := 480) (v := 0) hC dL_law_480 rfl ?_
    refine z_eqI (y := zB (tGr m (tQ wd gp pd I))) (by rw [show tGr m (tQ wd gp pd I) = false from decide_eq_false (Int32.not_lt.mpr h473)]; rfl) ?_
    exact J481
  · skip
    have g473 := Int32.not_le.mp h473
    refine z_iconst (pc := 476) (v := 1) hC dL_law_476 rfl ?_
    refine z_goto (pc := 477) (tgt := 481) hC dL_law_477 (by decide) ?_
    refine z_eqI (y := zB (tGr m (tQ wd gp pd I))) (by rw [show tGr m (tQ wd gp pd I) = true from decide_eq_true (Int32.not_le.mp h473)]; rfl) ?_
    exact J481
end ZLMW
