section ZT2
/-! one line: its widths and places -/
def tOk (m : Nat) (q : tP) : Prop := (0 ≤ (tW q).toInt ∧ (tW q).toInt < 1200) ∧ (0 ≤ (tG q).toInt ∧ (tG q).toInt < 20) ∧ (0 ≤ (tA q).toInt ∧ (tA q).toInt < 20) ∧ ∀ j, j < m → (0 ≤ (tLo q j).toInt ∧ (tLo q j).toInt < 150) ∧ (0 ≤ (tHi q j).toInt ∧ (tHi q j).toInt ≤ 10000) ∧ (0 ≤ (tM q j).toInt ∧ (tM q j).toInt < 15) ∧ (0 ≤ (tB q j).toInt ∧ (tB q j).toInt < 250) ∧ (0 ≤ (tGw q j).toInt ∧ (tGw q j).toInt ≤ 9)
def tIn (q : tP) : Int32 := sIn (tW q) (tA q)
def tRoom (m : Nat) (q : tP) : Int32 := tIn q - zsum (fun j => 2 * tM q j) m - zgap (nI m) (tG q)
def tF (m : Nat) (q : tP) : Nat → Int32 := fxSz m (tRoom m q) (tB q) (tLo q) (tHi q) (tGw q) (fun _ => 1)
def tFr (m : Nat) (q : tP) : Int32 := tIn q - zsum (fun j => tF m q j + 2 * tM q j) m - zgap (nI m) (tG q)
def tX (m : Nat) (q : tP) (i : Nat) : Int32 := 0 + tA q + (zsum (fun j => tF m q j + 2 * tM q j + tG q) i + sJu (tJ q) (tFr m q) i m + tM q i)
theorem zbeg_c {ln : Nat → Nat} (h : ∀ i, ln i = 0) : ∀ i, zbeg ln i = 0
  | 0 => rfl
  | i + 1 => by
    show (if ln (i + 1) = ln i then zbeg ln i else i + 1) = 0
    rw [if_pos (by rw [h, h])]
    exact zbeg_c h i
theorem zend_c {ln : Nat → Nat} {n : Nat} (h : ∀ i, ln i = 0) (hn : 0 < n) : zend ln n 0 = n := by
  have z := zend_spec (ln := ln) hn
  rcases Nat.lt_or_ge (zend ln n 0) n with c | c
  · exact absurd ((h _).trans (h 0).symm) (z.2.2.2 c)
  · omega
section
variable {m : Nat} {q : tP} {σ : zS}
theorem tT_lu (T : tT m 0 q σ) (hR : tR q = 0) (nw : Nat → Int32) (W : Int32) : ∀ i, (sLU σ nw 0 W i).1 = 0
  | 0 => rfl
  | i + 1 => by
    show (sLU σ nw 0 W (i + 1)).1 = 0
    unfold sLU
    rw [if_neg (fun z => by
      have z1 := z.1
      rw [(tT_r T).2.1, hR] at z1
      exact absurd z1 (by decide))]
    exact tT_lu T hR nw W i
theorem tT_ln {h : Nat} (T : tT m h q σ) (nw : Nat → Int32) (W : Int32) (i : Nat) : sLn σ nw 0 W i = (sLU σ nw 0 W i).1 := by
  unfold sLn
  rw [(tT_r T).1, if_neg (by decide)]
theorem tT_l0 (T : tT m 0 q σ) (hR : tR q = 0) (nw : Nat → Int32) (W : Int32) (i : Nat) : sLn σ nw 0 W i = 0 := by
  rw [tT_ln T]
  exact tT_lu T hR nw W i
theorem tT_0 {h : Nat} (T : tT m h q σ) : sWD σ 0 = tW q := T.2.2.2.2.1
theorem tT_wd (T : tT m 0 q σ) (hR : tR q = 0) (hO : tOk m q) {i : Nat} (hi : i < m) : sWD σ (i + 1) = tF m q i := by
  have hk := tT_kn T (by decide)
  have e := sWD_kd T.1 (p := 0) (i := i) (by rw [hk]; exact hi)
  rw [tT_kd T (by decide) hi] at e
  refine e.trans ?_
  have r := tT_r T
  unfold sKW
  rw [r.1, if_neg (by decide), tT_0 T, zbeg_c (tT_l0 T hR _ _), hk, zend_c (tT_l0 T hR _ _) (show 0 < m - 0 by omega), r.2.2.2.2.2]
  have ej : ∀ j, j < m → kd σ 0 (0 + j) = j + 1 := fun j hj => by
    rw [Nat.zero_add, tT_kd T (by decide) hj]
  unfold sFx
  show fxSz m (sIn (tW q) (tA q) - zsum (fun j => 2 * sSt σ (kd σ 0 (0 + j)) 6) m - zgap (nI m) (sSt σ 0 4)) (fun j => sB σ (sNW σ) (kd σ 0 (0 + j))) (fun j => sSt σ (kd σ 0 (0 + j)) 12) (fun j => sSt σ (kd σ 0 (0 + j)) 14) (fun j => sSt σ (kd σ 0 (0 + j)) 8) (fun j => sSt σ (kd σ 0 (0 + j)) 9) i = tF m q i
  have er : sIn (tW q) (tA q) - zsum (fun j => 2 * sSt σ (kd σ 0 (0 + j)) 6) m - zgap (nI m) (sSt σ 0 4) = tRoom m q := by
    rw [r.2.2.2.2.1, zsum_congr (g := fun j => 2 * tM q j) (fun j hj => by rw [ej j hj, (tT_b T hj).1])]
    rfl
  rw [er]
  unfold tF
  refine fxSz_congr (fun j hj => ?_) (fun j hj => ?_) (fun j hj => ?_) (fun j hj => ?_) (fun j hj => ?_) i hi
  · rw [ej j hj]
    have b := (tT_b T hj).2.1
    unfold sB
    rw [b, if_neg (fun z => by
      have o := (hO.2.2.2 j hj).2.2.2.1.1
      rw [z] at o
      exact absurd o (by decide))]
  · rw [ej j hj, (tT_b T hj).2.2.2.2.1]
  · rw [ej j hj, (tT_b T hj).2.2.2.2.2.1]
  · rw [ej j hj, (tT_b T hj).2.2.1]
  · rw [ej j hj, (tT_b T hj).2.2.2.1]
theorem tT_x (T : tT m 0 q σ) (hR : tR q = 0) (hO : tOk m q) {i : Nat} (hi : i < m) : sX σ (i + 1) = tX m q i := by
  have hk := tT_kn T (by decide)
  have e := sX_kd T.1 (p := 0) (i := i) (by rw [hk]; exact hi)
  rw [tT_kd T (by decide) hi] at e
  refine e.trans ?_
  have r := tT_r T
  have ej : ∀ j, j < m → kd σ 0 (0 + j) = j + 1 := fun j hj => by
    rw [Nat.zero_add, tT_kd T (by decide) hj]
  have eo : ∀ j, j < m → sO σ (sWD σ) (kd σ 0 (0 + j)) = tF m q j + 2 * tM q j := fun j hj => by
    rw [ej j hj]
    unfold sO
    rw [tT_wd T hR hO hj, (tT_b T hj).1]
  have ek : kd σ 0 i = i + 1 := tT_kd T (by decide) hi
  unfold sKX
  rw [sX_0, r.2.2.2.2.2, r.1, if_neg (by decide), tT_0 T, zbeg_c (tT_l0 T hR _ _), hk, zend_c (tT_l0 T hR _ _) (show 0 < m - 0 by omega)]
  unfold sAlo sBf sFr
  rw [ek, (tT_b T hi).1, r.2.2.1, r.2.2.2.2.1]
  show 0 + tA q + (zsum (fun j => sO σ (sWD σ) (kd σ 0 (0 + j)) + tG q) i + sJu (tJ q) (sIn (tW q) (tA q) - zsum (fun j => sO σ (sWD σ) (kd σ 0 (0 + j))) m - zgap (nI m) (tG q)) i m + tM q i) = tX m q i
  rw [zsum_congr (n := i) (g := fun j => tF m q j + 2 * tM q j + tG q) (fun j hj => by rw [eo j (by omega)]), zsum_congr (n := m) (g := fun j => tF m q j + 2 * tM q j) eo]
  rfl
theorem sAs_3 (x : Int32) : sAs 3 x = 0 := by
  unfold sAs
  by_cases c : x ≤ 0
  · rw [if_pos c]
  · rw [if_neg c, if_neg (by decide), if_neg (by decide)]
theorem tT_y (T : tT m 0 q σ) {i : Nat} (hi : i < m) (hl : sLn σ (sNW σ) 0 (sWD σ 0) i = 0) : sY σ (i + 1) = tA q + tM q i := by
  have hk := tT_kn T (by decide)
  have e := sY_kd T.1 (p := 0) (i := i) (by rw [hk]; exact hi)
  rw [tT_kd T (by decide) hi] at e
  refine e.trans ?_
  have r := tT_r T
  have ek : kd σ 0 i = i + 1 := tT_kd T (by decide) hi
  unfold sKY
  rw [sY_0, r.2.2.2.2.2, r.1, if_neg (by decide), hl, ek]
  unfold sAcr
  rw [tT_al T hi, sAs_3, (tT_b T hi).1]
  show 0 + tA q + (0 + (0 + tM q i)) = tA q + tM q i
  rw [Int32.zero_add, Int32.zero_add, Int32.zero_add]
theorem tT_li (T : tT m 0 q σ) (hR : tR q = 0) {i : Nat} (hi : i < m) : sLi σ (i + 1) = 0 := by
  unfold sLi
  rw [if_neg (by omega), (tT_b T hi).2.2.2.2.2.2.2]
  exact tT_l0 T hR _ _ _
end
end ZT2
