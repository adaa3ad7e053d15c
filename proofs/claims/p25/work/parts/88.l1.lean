section ZL1W
set_option maxHeartbeats 4000000 in
set_option maxRecDepth 100000 in
theorem zLw_l1 {C : zC} {g : zG} {sa : Nat → Nat} {N b L : Nat} {xs : Nat → Int32} (hW : zLW C g sa N b L xs) {m : Nat} (h1 : 1 ≤ m) (h2 : m ≤ 6) {wd gp pd : Int32} (hK : ∀ (kc ks : Nat) (σ : zS) (I : Nat → Nat → Int32) (P : Nat → Nat → Option Nat) (J : Nat → Nat → Int64), kc ≤ 300 → ks ≤ 4000 → zCl σ I P → tT m 0 (tQ wd gp pd I) σ → tOk m (tQ wd gp pd I) → zJ C g N 24 kc ks I P J 454 [(11, .int (tNd m (tQ wd gp pd I) m)), (0, .ref b), (1, .ref (g.1 80)), (2, .int (nI m)), (3, .int wd), (4, .int gp), (5, .int pd), (6, .ref (g.1 95)), (7, .ref (g.1 96)), (8, .ref (g.1 97)), (9, .ref (g.1 98)), (10, .ref (g.1 99))] []) :
    ∀ (zf k kc ks : Nat) (σ : zS) (I : Nat → Nat → Int32) (P : Nat → Nat → Option Nat) (J : Nat → Nat → Int64) (nd : Int32), m < k + zf → k ≤ m → kc + 12 * (m - k) ≤ 300 → ks + 72 * (m - k) ≤ 4000 → zCl σ I P → tT k 0 (tQ wd gp pd I) σ → tOk k (tQ wd gp pd I) → nd = tNd m (tQ wd gp pd I) k → zJ C g N 24 kc ks I P J 129 [(14, .int (nI k)), (11, .int nd), (0, .ref b), (1, .ref (g.1 80)), (2, .int (nI m)), (3, .int wd), (4, .int gp), (5, .int pd), (6, .ref (g.1 95)), (7, .ref (g.1 96)), (8, .ref (g.1 97)), (9, .ref (g.1 98)), (10, .ref (g.1 99))] [] := by
  intro zf
  induction zf with
  | zero =>
    intro k kc ks σ I P J nd hz hkm
    exact absurd hz (by omega)
  | succ zf ih =>
    intro k kc ks σ I P J nd hz hkm hkc hks hcl T O hnd
    subst hnd
    obtain ⟨hC, hX, hst, hRm, hx, hbs, hA, hL⟩ := id hW
    refine z_iload (pc := 129) hC 0 dL_law_129 rfl ?_
    refine z_iload_n (pc := 131) hC 4 dL_law_131 rfl rfl ?_
    refine z_icmp_ge (pc := 132) (tgt := 454) hC dL_law_132 (by decide) (fun h132 => ?_) (fun h132 => ?_)
    · skip
      have g132 := Int32.not_lt.mpr h132
      have q := (zi_le _ _).mp h132
      rw [nI_toInt (by omega), nI_toInt (by omega)] at q
      have ek : k = m := by omega
      rw [ek] at T O ⊢
      refine z_lvs (lv' := [(11, .int (tNd m (tQ wd gp pd I) m)), (0, .ref b), (1, .ref (g.1 80)), (2, .int (nI m)), (3, .int wd), (4, .int gp), (5, .int pd), (6, .ref (g.1 95)), (7, .ref (g.1 96)), (8, .ref (g.1 97)), (9, .ref (g.1 98)), (10, .ref (g.1 99))]) [1, 2, 3, 4, 5, 6, 7, 8, 9, 10, 11, 12] rfl ?_
      exact hK kc ks σ I P J (by omega) (by omega) hcl T O
    · skip
      have g132 := Int32.not_le.mp h132
      have hk : k < m := by
        refine Nat.lt_of_not_le (fun q => h132 ((zi_le _ _).mpr ?_))
        rw [nI_toInt (by omega), nI_toInt (by omega)]
        omega
      have hlt6 : k < 6 := by omega
      have J172 : ∀ (a172 : Int32) (r172 : 0 ≤ a172.toInt ∧ a172.toInt < 150), zJ C g N 24 (kc) (ks) I P J 172 [(14, .int (nI k)), (11, .int (tNd m (tQ wd gp pd I) k)), (0, .ref b), (1, .ref (g.1 80)), (2, .int (nI m)), (3, .int wd), (4, .int gp), (5, .int pd), (6, .ref (g.1 95)), (7, .ref (g.1 96)), (8, .ref (g.1 97)), (9, .ref (g.1 98)), (10, .ref (g.1 99))] [.int a172, .int (nI k), .ref (g.1 95)] := by
        intro a172 r172
        refine z_isN (pc := 172) hC k rfl (z_lt hC (by decide)) rfl hlt6 (by decide) dL_law_172 ?_
        have J214 : ∀ (a214 : Int32) (r214 : 0 ≤ a214.toInt ∧ a214.toInt ≤ 10000), zJ C g N 24 (kc) (ks) (z_u I 95 k a172) P J 214 [(14, .int (nI k)), (11, .int (tNd m (tQ wd gp pd I) k)), (0, .ref b), (1, .ref (g.1 80)), (2, .int (nI m)), (3, .int wd), (4, .int gp), (5, .int pd), (6, .ref (g.1 95)), (7, .ref (g.1 96)), (8, .ref (g.1 97)), (9, .ref (g.1 98)), (10, .ref (g.1 99))] [.int a214, .int (nI k), .ref (g.1 96)] := by
          intro a214 r214
          refine z_isN (pc := 214) hC k rfl (z_lt hC (by decide)) rfl hlt6 (by decide) dL_law_214 ?_
          have J253 : ∀ (a253 : Int32) (r253 : 0 ≤ a253.toInt ∧ a253.toInt < 15), zJ C g N 24 (kc) (ks) (z_u (z_u I 95 k a172) 96 k a214) P J 253 [(14, .int (nI k)), (11, .int (tNd m (tQ wd gp pd I) k)), (0, .ref b), (1, .ref (g.1 80)), (2, .int (nI m)), (3, .int wd), (4, .int gp), (5, .int pd), (6, .ref (g.1 95)), (7, .ref (g.1 96)), (8, .ref (g.1 97)), (9, .ref (g.1 98)), (10, .ref (g.1 99))] [.int a253, .int (nI k), .ref (g.1 97)] := by
            intro a253 r253
            refine z_isN (pc := 253) hC k rfl (z_lt hC (by decide)) rfl hlt6 (by decide) dL_law_253 ?_
            refine z_aload (pc := 254) hC 11 dL_law_254 rfl z_isr_r ?_
            refine z_iload (pc := 256) hC 0 dL_law_256 rfl ?_
            refine z_aload_n (pc := 258) hC 2 dL_law_258 rfl rfl z_isr_r ?_
            refine z_bipush (pc := 259) (v := 7) hC dL_law_259 rfl ?_
            refine z_iload (pc := 261) hC 0 dL_law_261 rfl ?_
            refine z_imul (pc := 263) hC dL_law_263 ?_
            refine z_bipush (pc := 264) (v := 10) hC dL_law_264 rfl ?_
            refine z_iadd (pc := 266) hC dL_law_266 ?_
            refine z_sipush (pc := 267) (v := 250) hC dL_law_267 rfl ?_
            refine z_cell (pc := 270) (st := [.int (nI k), .ref (g.1 98)]) hC hx hbs hA hL hRm (z7_rng hlt6 (c := 10) (by decide)) (by decide) ⟨by omega, by omega⟩ (Nat.le_of_ble_eq_true rfl) dL_law_270 (fun v270 u270 t270 => ?_)
            rw [show (250 : Int32).toInt = 250 from rfl] at t270
            refine z_isN (pc := 273) hC k rfl (z_lt hC (by decide)) rfl hlt6 (by decide) dL_law_273 ?_
            have J314 : ∀ (a314 : Int32) (r314 : 0 ≤ a314.toInt ∧ a314.toInt ≤ 9), zJ C g N 24 (kc) (ks) (z_u (z_u (z_u (z_u I 95 k a172) 96 k a214) 97 k a253) 98 k v270) P J 314 [(14, .int (nI k)), (11, .int (tNd m (tQ wd gp pd I) k)), (0, .ref b), (1, .ref (g.1 80)), (2, .int (nI m)), (3, .int wd), (4, .int gp), (5, .int pd), (6, .ref (g.1 95)), (7, .ref (g.1 96)), (8, .ref (g.1 97)), (9, .ref (g.1 98)), (10, .ref (g.1 99))] [.int a314, .int (nI k), .ref (g.1 99)] := by
              intro a314 r314
              refine z_isN (pc := 314) hC k rfl (z_lt hC (by decide)) rfl hlt6 (by decide) dL_law_314 ?_
              refine z_aload_n (pc := 315) hC 3 dL_law_315 rfl rfl z_isr_r ?_
              refine z_iconst (pc := 316) (v := 0) hC dL_law_316 rfl ?_
              have hcM : zCl σ (z_u (z_u (z_u (z_u (z_u I 95 k a172) 96 k a214) 97 k a253) 98 k v270) 99 k a314) P := zCl_95 (fun x j hq => tM5_lo I k a172 a214 a253 v270 a314 hq j) hcl
              refine zr_add (pc := 317) (st := []) (x := 0) (r := nI (k + 1)) hW hcM rfl (tT_ex T (Nat.zero_le _)) (by rw [T.2.1]; omega) (by rw [T.2.1]) ⟨by omega, by omega⟩ (Nat.le_of_ble_eq_true rfl) dL_law_317 (fun I1 P1 J1 hc1 hk1 => ?_)
              refine z_istore (pc := 320) (lv' := [(15, .int (nI (k + 1))), (14, .int (nI k)), (11, .int (tNd m (tQ wd gp pd I) k)), (0, .ref b), (1, .ref (g.1 80)), (2, .int (nI m)), (3, .int wd), (4, .int gp), (5, .int pd), (6, .ref (g.1 95)), (7, .ref (g.1 96)), (8, .ref (g.1 97)), (9, .ref (g.1 98)), (10, .ref (g.1 99))]) hC dL_law_320 (by decide) rfl ?_
              refine z_iload (pc := 322) hC 0 dL_law_322 rfl ?_
              refine z_iload (pc := 324) hC 1 dL_law_324 rfl ?_
              refine z_iconst (pc := 326) (v := 1) hC dL_law_326 rfl ?_
              refine z_iadd (pc := 327) hC dL_law_327 ?_
              refine z_icmp_ne (pc := 328) (tgt := 415) hC dL_law_328 (by decide) (fun h328 => ?_) (fun h328 => ?_)
              · skip
                exact absurd (nI_1 k).symm h328
              · skip
                refine z_aload_n (pc := 331) hC 4 dL_law_331 rfl rfl z_isr_r ?_
                refine z_iload (pc := 332) hC 0 dL_law_332 rfl ?_
                refine z_bipush (pc := 334) (v := 12) hC dL_law_334 rfl ?_
                refine z_aload (pc := 336) hC 9 dL_law_336 rfl z_isr_r ?_
                refine z_iload (pc := 338) hC 1 dL_law_338 rfl ?_
                refine z_iaN (pc := 340) hC k (x := a172) rfl (z_lt hC (by decide)) rfl hlt6 (by decide) (((hk1).2.1 95 k (by decide)).trans (tM5_k I k a172 a214 a253 v270 a314).1) dL_law_340 ?_
                refine zr_set (pc := 341) (st := []) (x := nI (k + 1)) (q := 12) (v := a172) (r := 0) hW hc1 (k + 1) 12 rfl rfl (by omega) (tA_ex T) (by decide) (z_le2 (show (0 : Int) ≤ a172.toInt by omega) (show a172.toInt ≤ (1000 : Int) by omega)) (tA_st T 12) ⟨by omega, by omega⟩ (Nat.le_of_ble_eq_true rfl) dL_law_341 (fun I2 P2 J2 hc2 hk2 => ?_)
                have hp2 := hk1.tr hk2
                refine z_if_ne (pc := 344) (tgt := 415) hC dL_law_344 (by decide) (fun h344 => ?_) (fun h344 => ?_)
                · skip
                  exact absurd h344 (by decide)
                · skip
                  refine z_aload_n (pc := 347) hC 4 dL_law_347 rfl rfl z_isr_r ?_
                  refine z_iload (pc := 348) hC 0 dL_law_348 rfl ?_
                  refine z_bipush (pc := 350) (v := 14) hC dL_law_350 rfl ?_
                  refine z_aload (pc := 352) hC 10 dL_law_352 rfl z_isr_r ?_
                  refine z_iload (pc := 354) hC 1 dL_law_354 rfl ?_
                  refine z_iaN (pc := 356) hC k (x := a214) rfl (z_lt hC (by decide)) rfl hlt6 (by decide) (((hp2).2.1 96 k (by decide)).trans (tM5_k I k a172 a214 a253 v270 a314).2.1) dL_law_356 ?_
                  refine zr_set (pc := 357) (st := []) (x := nI (k + 1)) (q := 14) (v := a214) (r := 10000) hW hc2 (k + 1) 14 rfl rfl (by omega) (tA_ex T) (by decide) (z_le2 (show (0 : Int) ≤ a214.toInt by omega) (show a214.toInt ≤ (10000 : Int) by omega)) ((sSt_ne (by decide)).trans (tA_st T 14)) ⟨by omega, by omega⟩ (Nat.le_of_ble_eq_true rfl) dL_law_357 (fun I3 P3 J3 hc3 hk3 => ?_)
                  have hp3 := hp2.tr hk3
                  refine z_sipush (pc := 360) (v := 10000) hC dL_law_360 rfl ?_
                  refine z_icmp_ne (pc := 363) (tgt := 415) hC dL_law_363 (by decide) (fun h363 => ?_) (fun h363 => ?_)
                  · skip
                    exact absurd h363 (by decide)
                  · skip
                    refine z_aload_n (pc := 366) hC 4 dL_law_366 rfl rfl z_isr_r ?_
                    refine z_iload (pc := 367) hC 0 dL_law_367 rfl ?_
                    refine z_bipush (pc := 369) (v := 6) hC dL_law_369 rfl ?_
                    refine z_aload (pc := 371) hC 11 dL_law_371 rfl z_isr_r ?_
                    refine z_iload (pc := 373) hC 1 dL_law_373 rfl ?_
                    refine z_iaN (pc := 375) hC k (x := a253) rfl (z_lt hC (by decide)) rfl hlt6 (by decide) (((hp3).2.1 97 k (by decide)).trans (tM5_k I k a172 a214 a253 v270 a314).2.2.1) dL_law_375 ?_
                    refine zr_set (pc := 376) (st := []) (x := nI (k + 1)) (q := 6) (v := a253) (r := 0) hW hc3 (k + 1) 6 rfl rfl (by omega) (tA_ex T) (by decide) (z_le2 (show (0 : Int) ≤ a253.toInt by omega) (show a253.toInt ≤ (50 : Int) by omega)) ((sSt_ne (by decide)).trans ((sSt_ne (by decide)).trans (tA_st T 6))) ⟨by omega, by omega⟩ (Nat.le_of_ble_eq_true rfl) dL_law_376 (fun I4 P4 J4 hc4 hk4 => ?_)
                    have hp4 := hp3.tr hk4
                    refine z_if_ne (pc := 379) (tgt := 415) hC dL_law_379 (by decide) (fun h379 => ?_) (fun h379 => ?_)
                    · skip
                      exact absurd h379 (by decide)
                    · skip
                      refine z_aload_n (pc := 382) hC 4 dL_law_382 rfl rfl z_isr_r ?_
                      refine z_iload (pc := 383) hC 0 dL_law_383 rfl ?_
                      refine z_bipush (pc := 385) (v := 7) hC dL_law_385 rfl ?_
                      refine z_aload (pc := 387) hC 12 dL_law_387 rfl z_isr_r ?_
                      refine z_iload (pc := 389) hC 1 dL_law_389 rfl ?_
                      refine z_iaN (pc := 391) hC k (x := v270) rfl (z_lt hC (by decide)) rfl hlt6 (by decide) (((hp4).2.1 98 k (by decide)).trans (tM5_k I k a172 a214 a253 v270 a314).2.2.2.1) dL_law_391 ?_
                      refine zr_set (pc := 392) (st := []) (x := nI (k + 1)) (q := 7) (v := v270) (r := (-1)) hW hc4 (k + 1) 7 rfl rfl (by omega) (tA_ex T) (by decide) (z_le2 (show (-1 : Int) ≤ v270.toInt by omega) (show v270.toInt ≤ (1000 : Int) by omega)) ((sSt_ne (by decide)).trans ((sSt_ne (by decide)).trans ((sSt_ne (by decide)).trans (tA_st T 7)))) ⟨by omega, by omega⟩ (Nat.le_of_ble_eq_true rfl) dL_law_392 (fun I5 P5 J5 hc5 hk5 => ?_)
                      have hp5 := hp4.tr hk5
                      refine z_iconst (pc := 395) (v := (-1)) hC dL_law_395 rfl ?_
                      refine z_icmp_ne (pc := 396) (tgt := 415) hC dL_law_396 (by decide) (fun h396 => ?_) (fun h396 => ?_)
                      · skip
                        exact absurd h396 (by decide)
                      · skip
                        refine z_aload_n (pc := 399) hC 4 dL_law_399 rfl rfl z_isr_r ?_
                        refine z_iload (pc := 400) hC 0 dL_law_400 rfl ?_
                        refine z_bipush (pc := 402) (v := 8) hC dL_law_402 rfl ?_
                        refine z_aload (pc := 404) hC 13 dL_law_404 rfl z_isr_r ?_
                        refine z_iload (pc := 406) hC 1 dL_law_406 rfl ?_
                        refine z_iaN (pc := 408) hC k (x := a314) rfl (z_lt hC (by decide)) rfl hlt6 (by decide) (((hp5).2.1 99 k (by decide)).trans (tM5_k I k a172 a214 a253 v270 a314).2.2.2.2) dL_law_408 ?_
                        refine zr_set (pc := 409) (st := []) (x := nI (k + 1)) (q := 8) (v := a314) (r := 0) hW hc5 (k + 1) 8 rfl rfl (by omega) (tA_ex T) (by decide) (z_le2 (show (0 : Int) ≤ a314.toInt by omega) (show a314.toInt ≤ (9 : Int) by omega)) ((sSt_ne (by decide)).trans ((sSt_ne (by decide)).trans ((sSt_ne (by decide)).trans ((sSt_ne (by decide)).trans (tA_st T 8))))) ⟨by omega, by omega⟩ (Nat.le_of_ble_eq_true rfl) dL_law_409 (fun I6 P6 J6 hc6 hk6 => ?_)
                        have hp6 := hp5.tr hk6
                        refine z_if_eq (pc := 412) (tgt := 417) hC dL_law_412 (by decide) (fun h412 => ?_) (fun h412 => ?_)
                        · skip
                          refine z_iload (pc := 417) hC 2 dL_law_417 rfl ?_
                          refine z_aload (pc := 419) hC 12 dL_law_419 rfl z_isr_r ?_
                          refine z_iload (pc := 421) hC 1 dL_law_421 rfl ?_
                          refine z_iaN (pc := 423) hC k (x := v270) rfl (z_lt hC (by decide)) rfl hlt6 (by decide) (((hp6).2.1 98 k (by decide)).trans (tM5_k I k a172 a214 a253 v270 a314).2.2.2.1) dL_law_423 ?_
                          refine z_aload (pc := 424) hC 9 dL_law_424 rfl z_isr_r ?_
                          refine z_iload (pc := 426) hC 1 dL_law_426 rfl ?_
                          refine z_iaN (pc := 428) hC k (x := a172) rfl (z_lt hC (by decide)) rfl hlt6 (by decide) (((hp6).2.1 95 k (by decide)).trans (tM5_k I k a172 a214 a253 v270 a314).1) dL_law_428 ?_
                          refine z_aload (pc := 429) hC 10 dL_law_429 rfl z_isr_r ?_
                          refine z_iload (pc := 431) hC 1 dL_law_431 rfl ?_
                          refine z_iaN (pc := 433) hC k (x := a214) rfl (z_lt hC (by decide)) rfl hlt6 (by decide) (((hp6).2.1 96 k (by decide)).trans (tM5_k I k a172 a214 a253 v270 a314).2.1) dL_law_433 ?_
                          refine z_cS (pc := 434) (st := [.int (tNd m (tQ wd gp pd I) k)]) hC [.int v270, .int a172, .int a214] (kL_limit C.2.1 g N I6 P6 J6 v270 a172 a214) zkL_limit zm_3_141 ⟨rfl, rfl⟩ rfl rfl hRm ⟨Nat.le_of_ble_eq_true rfl, Nat.le_of_ble_eq_true rfl⟩ (Nat.le_of_ble_eq_true rfl) ⟨by show _ ≤ 600130; omega, by show _ ≤ 7301080; omega⟩ dL_law_434 ?_
                          refine z_iconst (pc := 437) (v := 2) hC dL_law_437 rfl ?_
                          refine z_aload (pc := 438) hC 11 dL_law_438 rfl z_isr_r ?_
                          refine z_iload (pc := 440) hC 1 dL_law_440 rfl ?_
                          refine z_iaN (pc := 442) hC k (x := a253) rfl (z_lt hC (by decide)) rfl hlt6 (by decide) (((hp6).2.1 97 k (by decide)).trans (tM5_k I k a172 a214 a253 v270 a314).2.2.1) dL_law_442 ?_
                          refine z_imul (pc := 443) hC dL_law_443 ?_
                          refine z_iadd (pc := 444) hC dL_law_444 ?_
                          refine z_iadd (pc := 445) hC dL_law_445 ?_
                          refine z_istore (pc := 446) (lv' := [(11, .int ((tNd m (tQ wd gp pd I) k) + ((zlim v270 a172 a214) + (2 * a253)))), (15, .int (nI (k + 1))), (14, .int (nI k)), (0, .ref b), (1, .ref (g.1 80)), (2, .int (nI m)), (3, .int wd), (4, .int gp), (5, .int pd), (6, .ref (g.1 95)), (7, .ref (g.1 96)), (8, .ref (g.1 97)), (9, .ref (g.1 98)), (10, .ref (g.1 99))]) hC dL_law_446 (by decide) rfl ?_
                          refine z_iinc (pc := 448) (v := nI (k + 1)) (lv' := [(14, .int (nI (k + 1))), (11, .int ((tNd m (tQ wd gp pd I) k) + ((zlim v270 a172 a214) + (2 * a253)))), (15, .int (nI (k + 1))), (0, .ref b), (1, .ref (g.1 80)), (2, .int (nI m)), (3, .int wd), (4, .int gp), (5, .int pd), (6, .ref (g.1 95)), (7, .ref (g.1 96)), (8, .ref (g.1 97)), (9, .ref (g.1 98)), (10, .ref (g.1 99))]) hC 2 dL_law_448 rfl (nI_1 k) (by decide) rfl ?_
                          refine z_goto (pc := 451) (tgt := 129) hC dL_law_451 (by decide) ?_
                          have X := tL_step (m := m) (I6 := I6) T O (fun x j hx => hp6.2.1 x j hx) ⟨r172, r214, r253, ⟨u270, t270⟩, r314⟩ rfl hc6.1.1
                          refine z_lvs (lv' := [(14, .int (nI (k + 1))), (11, .int ((tNd m (tQ wd gp pd I) k) + ((zlim v270 a172 a214) + (2 * a253)))), (0, .ref b), (1, .ref (g.1 80)), (2, .int (nI m)), (3, .int wd), (4, .int gp), (5, .int pd), (6, .ref (g.1 95)), (7, .ref (g.1 96)), (8, .ref (g.1 97)), (9, .ref (g.1 98)), (10, .ref (g.1 99))]) [0, 1, 3, 4, 5, 6, 7, 8, 9, 10, 11, 12, 13] rfl ?_
                          refine ih (k + 1) (kc + 2 + 2 + 2 + 2 + 2 + 2) (ks + 12 + 12 + 12 + 12 + 12 + 12) _ I6 P6 J6 _ (by omega) (by omega) (by omega) (by omega) hc6 X.1 X.2.1 X.2.2.symm
                        · skip
                          exact absurd h412 (by decide)
            refine z_aload (pc := 274) hC 12 dL_law_274 rfl z_isr_r ?_
            refine z_iload (pc := 276) hC 0 dL_law_276 rfl ?_
            refine z_aload_n (pc := 278) hC 2 dL_law_278 rfl rfl z_isr_r ?_
            refine z_bipush (pc := 279) (v := 7) hC dL_law_279 rfl ?_
            refine z_iload (pc := 281) hC 0 dL_law_281 rfl ?_
            refine z_imul (pc := 283) hC dL_law_283 ?_
            refine z_bipush (pc := 284) (v := 11) hC dL_law_284 rfl ?_
            refine z_iadd (pc := 286) hC dL_law_286 ?_
            refine z_iconst (pc := 287) (v := 3) hC dL_law_287 rfl ?_
            refine z_cell (pc := 288) (st := [.int (nI k), .ref (g.1 99)]) hC hx hbs hA hL hRm (z7_rng hlt6 (c := 11) (by decide)) (by decide) ⟨by omega, by omega⟩ (Nat.le_of_ble_eq_true rfl) dL_law_288 (fun v288 u288 t288 => ?_)
            rw [show (3 : Int32).toInt = 3 from rfl] at t288
            refine z_if_ne (pc := 291) (tgt := 298) hC dL_law_291 (by decide) (fun h291 => ?_) (fun h291 => ?_)
            · skip
              refine z_iconst (pc := 298) (v := 1) hC dL_law_298 rfl ?_
              refine z_aload_n (pc := 299) hC 2 dL_law_299 rfl rfl z_isr_r ?_
              refine z_bipush (pc := 300) (v := 7) hC dL_law_300 rfl ?_
              refine z_iload (pc := 302) hC 0 dL_law_302 rfl ?_
              refine z_imul (pc := 304) hC dL_law_304 ?_
              refine z_bipush (pc := 305) (v := 12) hC dL_law_305 rfl ?_
              refine z_iadd (pc := 307) hC dL_law_307 ?_
              refine z_bipush (pc := 308) (v := 9) hC dL_law_308 rfl ?_
              refine z_cell (pc := 310) (st := [.int 1, .int (nI k), .ref (g.1 99)]) hC hx hbs hA hL hRm (z7_rng hlt6 (c := 12) (by decide)) (by decide) ⟨by omega, by omega⟩ (Nat.le_of_ble_eq_true rfl) dL_law_310 (fun v310 u310 t310 => ?_)
              rw [show (9 : Int32).toInt = 9 from rfl] at t310
              refine z_iadd (pc := 313) hC dL_law_313 ?_
              exact J314 (1 + v310) (z1_rng u310 t310)
            · skip
              refine z_iconst (pc := 294) (v := 0) hC dL_law_294 rfl ?_
              refine z_goto (pc := 295) (tgt := 314) hC dL_law_295 (by decide) ?_
              exact J314 0 (by decide)
          refine z_aload (pc := 215) hC 10 dL_law_215 rfl z_isr_r ?_
          refine z_iload (pc := 217) hC 0 dL_law_217 rfl ?_
          refine z_aload_n (pc := 219) hC 2 dL_law_219 rfl rfl z_isr_r ?_
          refine z_bipush (pc := 220) (v := 7) hC dL_law_220 rfl ?_
          refine z_iload (pc := 222) hC 0 dL_law_222 rfl ?_
          refine z_imul (pc := 224) hC dL_law_224 ?_
          refine z_bipush (pc := 225) (v := 8) hC dL_law_225 rfl ?_
          refine z_iadd (pc := 227) hC dL_law_227 ?_
          refine z_iconst (pc := 228) (v := 3) hC dL_law_228 rfl ?_
          refine z_cell (pc := 229) (st := [.int (nI k), .ref (g.1 97)]) hC hx hbs hA hL hRm (z7_rng hlt6 (c := 8) (by decide)) (by decide) ⟨by omega, by omega⟩ (Nat.le_of_ble_eq_true rfl) dL_law_229 (fun v229 u229 t229 => ?_)
          rw [show (3 : Int32).toInt = 3 from rfl] at t229
          refine z_if_ne (pc := 232) (tgt := 252) hC dL_law_232 (by decide) (fun h232 => ?_) (fun h232 => ?_)
          · skip
            refine z_iconst (pc := 252) (v := 0) hC dL_law_252 rfl ?_
            exact J253 0 (by decide)
          · skip
            refine z_aload_n (pc := 235) hC 2 dL_law_235 rfl rfl z_isr_r ?_
            refine z_bipush (pc := 236) (v := 7) hC dL_law_236 rfl ?_
            refine z_iload (pc := 238) hC 0 dL_law_238 rfl ?_
            refine z_imul (pc := 240) hC dL_law_240 ?_
            refine z_bipush (pc := 241) (v := 9) hC dL_law_241 rfl ?_
            refine z_iadd (pc := 243) hC dL_law_243 ?_
            refine z_bipush (pc := 244) (v := 15) hC dL_law_244 rfl ?_
            refine z_cell (pc := 246) (st := [.int (nI k), .ref (g.1 97)]) hC hx hbs hA hL hRm (z7_rng hlt6 (c := 9) (by decide)) (by decide) ⟨by omega, by omega⟩ (Nat.le_of_ble_eq_true rfl) dL_law_246 (fun v246 u246 t246 => ?_)
            rw [show (15 : Int32).toInt = 15 from rfl] at t246
            refine z_goto (pc := 249) (tgt := 253) hC dL_law_249 (by decide) ?_
            exact J253 v246 ⟨u246, t246⟩
        refine z_aload (pc := 173) hC 9 dL_law_173 rfl z_isr_r ?_
        refine z_iload (pc := 175) hC 0 dL_law_175 rfl ?_
        refine z_aload_n (pc := 177) hC 2 dL_law_177 rfl rfl z_isr_r ?_
        refine z_bipush (pc := 178) (v := 7) hC dL_law_178 rfl ?_
        refine z_iload (pc := 180) hC 0 dL_law_180 rfl ?_
        refine z_imul (pc := 182) hC dL_law_182 ?_
        refine z_bipush (pc := 183) (v := 6) hC dL_law_183 rfl ?_
        refine z_iadd (pc := 185) hC dL_law_185 ?_
        refine z_iconst (pc := 186) (v := 3) hC dL_law_186 rfl ?_
        refine z_cell (pc := 187) (st := [.int (nI k), .ref (g.1 96)]) hC hx hbs hA hL hRm (z7_rng hlt6 (c := 6) (by decide)) (by decide) ⟨by omega, by omega⟩ (Nat.le_of_ble_eq_true rfl) dL_law_187 (fun v187 u187 t187 => ?_)
        rw [show (3 : Int32).toInt = 3 from rfl] at t187
        refine z_if_ne (pc := 190) (tgt := 211) hC dL_law_190 (by decide) (fun h190 => ?_) (fun h190 => ?_)
        · skip
          refine z_sipush (pc := 211) (v := 10000) hC dL_law_211 rfl ?_
          exact J214 10000 (by decide)
        · skip
          refine z_aload_n (pc := 193) hC 2 dL_law_193 rfl rfl z_isr_r ?_
          refine z_bipush (pc := 194) (v := 7) hC dL_law_194 rfl ?_
          refine z_iload (pc := 196) hC 0 dL_law_196 rfl ?_
          refine z_imul (pc := 198) hC dL_law_198 ?_
          refine z_bipush (pc := 199) (v := 7) hC dL_law_199 rfl ?_
          refine z_iadd (pc := 201) hC dL_law_201 ?_
          refine z_sipush (pc := 202) (v := 400) hC dL_law_202 rfl ?_
          refine z_cell (pc := 205) (st := [.int (nI k), .ref (g.1 96)]) hC hx hbs hA hL hRm (z7_rng hlt6 (c := 7) (by decide)) (by decide) ⟨by omega, by omega⟩ (Nat.le_of_ble_eq_true rfl) dL_law_205 (fun v205 u205 t205 => ?_)
          rw [show (400 : Int32).toInt = 400 from rfl] at t205
          refine z_goto (pc := 208) (tgt := 214) hC dL_law_208 (by decide) ?_
          exact J214 v205 ⟨u205, by omega⟩
      refine z_aload (pc := 135) hC 8 dL_law_135 rfl z_isr_r ?_
      refine z_iload (pc := 137) hC 0 dL_law_137 rfl ?_
      refine z_aload_n (pc := 139) hC 2 dL_law_139 rfl rfl z_isr_r ?_
      refine z_bipush (pc := 140) (v := 7) hC dL_law_140 rfl ?_
      refine z_iload (pc := 142) hC 0 dL_law_142 rfl ?_
      refine z_imul (pc := 144) hC dL_law_144 ?_
      refine z_iconst (pc := 145) (v := 4) hC dL_law_145 rfl ?_
      refine z_iadd (pc := 146) hC dL_law_146 ?_
      refine z_iconst (pc := 147) (v := 2) hC dL_law_147 rfl ?_
      refine z_cell (pc := 148) (st := [.int (nI k), .ref (g.1 95)]) hC hx hbs hA hL hRm (z7_rng hlt6 (c := 4) (by decide)) (by decide) ⟨by omega, by omega⟩ (Nat.le_of_ble_eq_true rfl) dL_law_148 (fun v148 u148 t148 => ?_)
      rw [show (2 : Int32).toInt = 2 from rfl] at t148
      refine z_if_ne (pc := 151) (tgt := 158) hC dL_law_151 (by decide) (fun h151 => ?_) (fun h151 => ?_)
      · skip
        refine z_aload_n (pc := 158) hC 2 dL_law_158 rfl rfl z_isr_r ?_
        refine z_bipush (pc := 159) (v := 7) hC dL_law_159 rfl ?_
        refine z_iload (pc := 161) hC 0 dL_law_161 rfl ?_
        refine z_imul (pc := 163) hC dL_law_163 ?_
        refine z_iconst (pc := 164) (v := 5) hC dL_law_164 rfl ?_
        refine z_iadd (pc := 165) hC dL_law_165 ?_
        refine z_sipush (pc := 166) (v := 150) hC dL_law_166 rfl ?_
        refine z_cell (pc := 169) (st := [.int (nI k), .ref (g.1 95)]) hC hx hbs hA hL hRm (z7_rng hlt6 (c := 5) (by decide)) (by decide) ⟨by omega, by omega⟩ (Nat.le_of_ble_eq_true rfl) dL_law_169 (fun v169 u169 t169 => ?_)
        rw [show (150 : Int32).toInt = 150 from rfl] at t169
        exact J172 v169 ⟨u169, t169⟩
      · skip
        refine z_iconst (pc := 154) (v := 0) hC dL_law_154 rfl ?_
        refine z_goto (pc := 155) (tgt := 172) hC dL_law_155 (by decide) ?_
        exact J172 0 (by decide)
end ZL1W
