section ZT5
/-! WRAP: lines, widthFor, hit -/
section
variable {m h : Nat} {q : tP} {σ : zS}
theorem sLU_le (nw : Nat → Int32) (W : Int32) : ∀ i, (sLU σ nw 0 W i).1 ≤ i
  | 0 => Nat.le_refl 0
  | i + 1 => by
    have ih := sLU_le nw W i
    unfold sLU
    split
    · show (sLU σ nw 0 W i).1 + 1 ≤ i + 1
      omega
    · show (sLU σ nw 0 W i).1 ≤ i + 1
      omega
theorem tT_lc (T : tT m 0 q σ) (h1 : 1 ≤ m) (nw : Nat → Int32) (W : Int32) : sLC σ nw 0 W = nI (sLCn σ nw 0 W) ∧ 1 ≤ sLCn σ nw 0 W ∧ sLCn σ nw 0 W ≤ m := by
  have hk := tT_kn T (by decide)
  refine ⟨?_, ?_, ?_⟩
  · unfold sLC
    rw [if_pos (tT_con T h1)]
  · unfold sLCn
    rw [hk, if_neg (show ¬ m - 0 = 0 by omega)]
    omega
  · have z := sLU_le (σ := σ) nw W (m - 0 - 1)
    unfold sLCn
    rw [hk, if_neg (show ¬ m - 0 = 0 by omega), tT_ln T]
    omega
theorem zfind_le {p : Nat → Bool} {w : Nat} (hp : p w = true) : ∀ f v, v ≤ w → w < v + f → ∃ u, u ≤ w ∧ zfind p f v = nI u
  | 0, v, h1, h2 => absurd h2 (by omega)
  | f + 1, v, h1, h2 => by
    by_cases c : p v = true
    · exact ⟨v, h1, if_pos c⟩
    · have e : zfind p (f + 1) v = zfind p f (v + 1) := if_neg c
      rw [e]
      refine zfind_le hp f (v + 1) ?_ (by omega)
      rcases Nat.lt_or_ge v w with z | z
      · exact z
      · rw [show v = w by omega] at c
        exact absurd hp c
/-- widthFor() of the lines there are isn't greater than the width -/
theorem tT_wf1 (T : tT m 0 q σ) (h1 : 1 ≤ m) (hO : tOk m q) : ¬ tW q < sWf σ 0 (sLC σ (sNW σ) 0 (sWD σ 0)) := by
  have ow := hO.1
  obtain ⟨w, hw, e⟩ := zi_nI (x := tW q) (n := 1200) (by decide) ((zi_le _ _).mpr ow.1) ((zi_lt _ _).mpr (by
    rw [nI_toInt (by decide)]
    exact ow.2))
  obtain ⟨u, hu, eu⟩ := zfind_le (p := fun v => decide (sLC σ (sNW σ) 0 (sWv σ (nI v) 0) ≤ sLC σ (sNW σ) 0 (sWD σ 0))) (w := w) (by
    refine decide_eq_true ?_
    rw [sWv_0, tT_0 T, e]
    exact Int32.le_refl _) 2001 0 (Nat.zero_le _) (by omega)
  have eu : sWf σ 0 (sLC σ (sNW σ) 0 (sWD σ 0)) = nI u := eu
  rw [eu, e]
  intro c
  rw [zi_lt, nI_toInt (by omega), nI_toInt (by omega)] at c
  omega
theorem tT_wfm (T : tT m 0 q σ) (h1 : 1 ≤ m) (h2 : m ≤ 39) : sWf σ 0 (nI m) = 0 := by
  have e := tT_lc T h1 (sNW σ) (sWv σ (nI 0) 0)
  have c : decide (sLC σ (sNW σ) 0 (sWv σ (nI 0) 0) ≤ nI m) = true := decide_eq_true (by
    rw [e.1, zi_le, nI_toInt (by omega), nI_toInt (by omega)]
    omega)
  show (if decide (sLC σ (sNW σ) 0 (sWv σ (nI 0) 0) ≤ nI m) = true then nI 0 else zfind _ 2000 (0 + 1)) = 0
  rw [if_pos c]
  rfl
theorem tT_wf0 (T : tT m 0 q σ) (h1 : 1 ≤ m) (h2 : m ≤ 39) : sWf σ 0 0 = -1 := by
  refine zfind_n (fun v => ?_) 2001 0
  have e := tT_lc T h1 (sNW σ) (sWv σ (nI v) 0)
  refine decide_eq_false (fun c => ?_)
  have z0 : (0 : Int32).toInt = 0 := rfl
  rw [e.1, zi_le, nI_toInt (by omega), z0] at c
  omega
/-- how many lines, for the law -/
theorem tT_ln1 (T : tT m 0 q σ) (h1 : 1 ≤ m) (h2 : m ≤ 39) : ¬ sLC σ (sNW σ) 0 (sWD σ 0) < 1 ∧ ¬ nI m < sLC σ (sNW σ) 0 (sWD σ 0) := by
  have e := tT_lc T h1 (sNW σ) (sWD σ 0)
  have z1 : (1 : Int32).toInt = 1 := rfl
  refine ⟨fun c => ?_, fun c => ?_⟩
  · rw [e.1, zi_lt, nI_toInt (by omega), z1] at c
    omega
  · rw [e.1, zi_lt, nI_toInt (by omega), nI_toInt (by omega)] at c
    omega
/-- the first box's place, in whatever line -/
theorem tT_x1 (T : tT m 0 q σ) (hO : tOk m q) (h1 : 1 ≤ m) (h2 : m ≤ 39) (hJ : tJ q = 1) : 0 ≤ (sX σ 1).toInt ∧ (sX σ 1).toInt ≤ 3000 := by
  have hk := tT_kn T (by decide)
  have e := sX_kd T.1 (p := 0) (i := 0) (by rw [hk]; exact h1)
  have ek : kd σ 0 0 = 1 := tT_kd T (by decide) (show 0 < m - 0 by omega)
  rw [ek] at e
  have r := tT_r T
  obtain ⟨z, hz⟩ : ∃ z, z = zend (sLn σ (sNW σ) 0 (sWD σ 0)) (kn σ 0) (zbeg (sLn σ (sNW σ) 0 (sWD σ 0)) 0) := ⟨_, rfl⟩
  have hzm : z ≤ m ∧ 0 < z := by
    rw [hz]
    have y := zend_spec (ln := sLn σ (sNW σ) 0 (sWD σ 0)) (n := kn σ 0) (a := 0) (by rw [hk]; exact h1)
    rw [hk] at y ⊢
    exact ⟨y.2.1, y.1⟩
  have ox : sX σ 1 = 0 + tA q + (0 + sJu 1 (sFr σ 0 (sWD σ) (sIn (tW q) (tA q)) 0 z) 0 z + tM q 0) := by
    rw [e]
    unfold sKX
    rw [sX_0, r.2.2.2.2.2, r.1, if_neg (by decide), tT_0 T, ← tT_0 T, ← hz, tT_0 T]
    show 0 + tA q + sAlo σ 0 (sWD σ) (sIn (tW q) (tA q)) 0 z 0 = _
    unfold sAlo sBf
    rw [ek, (tT_b T (show 0 < m by omega)).1, r.2.2.1, hJ]
    rfl
  -- the free space is at most the inner width
  have hv : ∀ j, j < z → -20000 ≤ (sO σ (sWD σ) (kd σ 0 (0 + j))).toInt ∧ (sO σ (sWD σ) (kd σ 0 (0 + j))).toInt ≤ 20000 ∧ 0 ≤ (sO σ (sWD σ) (kd σ 0 (0 + j))).toInt := fun j hj => by
    have ekj : kd σ 0 (0 + j) = j + 1 := by
      rw [Nat.zero_add]
      exact tT_kd T (by decide) (show j < m - 0 by omega)
    rw [ekj]
    unfold sO
    rw [(tT_b T (show j < m by omega)).1]
    have a := sWD_rng T.1 (tT_sh T (by decide) (show j < m - 0 by omega))
    have a : 0 ≤ (sWD σ (j + 1)).toInt ∧ (sWD σ (j + 1)).toInt ≤ 10000 := a
    have b := (hO.2.2.2 j (by omega)).2.2.1
    have c := tM2 hO (show j < m by omega)
    have d : (sWD σ (j + 1) + 2 * tM q j).toInt = (sWD σ (j + 1)).toInt + (2 * tM q j).toInt := by
      rw [Int32.toInt_add]
      apply Int.bmod_eq_of_le <;> omega
    rw [d]
    omega
  have s := zsum_int (f := fun j => sO σ (sWD σ) (kd σ 0 (0 + j))) (n := z) (by omega) (fun j hj => ⟨(hv j hj).1, (hv j hj).2.1⟩)
  have sn := zsumZ_neg (f := fun j => (sO σ (sWD σ) (kd σ 0 (0 + j))).toInt) (n := z) (fun j hj => (hv j hj).2.2)
  have hi := tIn_int hO
  have ow := hO.1
  have oa := hO.2.2.1
  have om := (hO.2.2.2 0 (by omega)).2.2.1
  have gp : 0 ≤ (zgap (nI z) (tG q)).toInt ∧ (zgap (nI z) (tG q)).toInt ≤ 1000 := by
    rw [zgap_1 hzm.2 (by omega)]
    exact tGp_rng (m := z) (q := q) ⟨hO.1, hO.2.1, hO.2.2.1, fun j hj => hO.2.2.2 j (by omega)⟩ hzm.2 (by omega)
  have fr : (sFr σ 0 (sWD σ) (sIn (tW q) (tA q)) 0 z).toInt ≤ 1200 := by
    have a : (tIn q - zsum (fun j => sO σ (sWD σ) (kd σ 0 (0 + j))) z).toInt = (tIn q).toInt - zsumZ (fun j => (sO σ (sWD σ) (kd σ 0 (0 + j))).toInt) z := by
      rw [Int32.toInt_sub, s.1]
      apply Int.bmod_eq_of_le <;> omega
    have b : (tIn q - zsum (fun j => sO σ (sWD σ) (kd σ 0 (0 + j))) z - zgap (nI z) (tG q)).toInt = (tIn q).toInt - zsumZ (fun j => (sO σ (sWD σ) (kd σ 0 (0 + j))).toInt) z - (zgap (nI z) (tG q)).toInt := by
      rw [Int32.toInt_sub, a]
      apply Int.bmod_eq_of_le <;> omega
    unfold sFr
    rw [r.2.2.2.2.1]
    show (tIn q - zsum (fun j => sO σ (sWD σ) (kd σ 0 (0 + j))) z - zgap (nI z) (tG q)).toInt ≤ 1200
    omega
  have z0 : (0 : Int32).toInt = 0 := rfl
  have ju : 0 ≤ (sJu 1 (sFr σ 0 (sWD σ) (sIn (tW q) (tA q)) 0 z) 0 z).toInt ∧ (sJu 1 (sFr σ 0 (sWD σ) (sIn (tW q) (tA q)) 0 z) 0 z).toInt ≤ 1200 := by
    rw [sJu_1]
    by_cases c : sFr σ 0 (sWD σ) (sIn (tW q) (tA q)) 0 z ≤ 0
    · rw [if_pos c, z0]
      decide
    · rw [if_neg c]
      rw [zi_le, z0] at c
      omega
  generalize sJu 1 (sFr σ 0 (sWD σ) (sIn (tW q) (tA q)) 0 z) 0 z = y at ox ju
  rw [ox, Int32.zero_add, Int32.zero_add]
  have a : (y + tM q 0).toInt = y.toInt + (tM q 0).toInt := by
    rw [Int32.toInt_add]
    apply Int.bmod_eq_of_le <;> omega
  have b : (tA q + (y + tM q 0)).toInt = (tA q).toInt + (y.toInt + (tM q 0).toInt) := by
    rw [Int32.toInt_add, a]
    apply Int.bmod_eq_of_le <;> omega
  rw [b]
  omega
theorem zlast_ge {f : Nat → Bool} {L : List Nat} (hL : ∀ x, x ∈ L → x < 40) : ∀ k, -1 ≤ (zlast f L k).toInt
  | 0 => by
    show -1 ≤ (-1 : Int32).toInt
    decide
  | k + 1 => by
    have ih := zlast_ge (f := f) hL k
    cases e : L[k]? with
    | none =>
      have d := zlast_end (f := f) e 1
      rw [d]
      exact ih
    | some x =>
      rw [zlast_s e]
      by_cases c : f x = true
      · have hx := hL x (List.mem_of_getElem? e)
        rw [if_pos c, nI_toInt (by omega)]
        omega
      · rw [if_neg c]
        exact ih
theorem zlast_ge1 {f : Nat → Bool} {L : List Nat} (hL : ∀ x, x ∈ L → x < 40) (hp : ∀ k x, L[k]? = some x → 1 ≤ k → 1 ≤ x) (h1 : L[1]? = some 1) (hf : f 1 = true) : ∀ d, 1 ≤ (zlast f L (2 + d)).toInt
  | 0 => by
    rw [show zlast f L (2 + 0) = zlast f L (1 + 1) from rfl, zlast_s h1, if_pos hf]
    decide
  | d + 1 => by
    have ih := zlast_ge1 (f := f) hL hp h1 hf d
    show 1 ≤ (zlast f L (2 + d + 1)).toInt
    cases e : L[2 + d]? with
    | none =>
      have z := zlast_end (f := f) e 1
      rw [z]
      exact ih
    | some x =>
      rw [zlast_s e]
      by_cases c : f x = true
      · have hx := hL x (List.mem_of_getElem? e)
        have hx1 := hp (2 + d) x e (by omega)
        rw [if_pos c, nI_toInt (by omega)]
        omega
      · rw [if_neg c]
        exact ih
theorem tT_pr (T : tT m 0 q σ) (h1 : 1 ≤ m) : (∀ x, x ∈ sPr σ 0 → x < 40) ∧ (∀ k x, (sPr σ 0)[k]? = some x → 1 ≤ k → 1 ≤ x) ∧ (sPr σ 0)[1]? = some 1 := by
  refine ⟨fun x hx => (sSh_ex T.1 (sPr_sh T.1 (x + 1) x (Nat.lt_succ_self _) hx)).1, fun k x hx hk => ?_, ?_⟩
  · have nd := sPr_nodup T.1 41 0 (by decide)
    have z := sPr_0 T.1
    rcases Nat.eq_zero_or_pos x with e | e
    · rw [e] at hx
      have := zlist_inj nd hx z
      omega
    · exact e
  · have ks := tT_kids T (by decide)
    rw [sPr_fix T.1, ks]
    have e : List.range' (1 + 0) (m - 0) = 1 :: List.range' 2 (m - 1) := by
      rw [show m - 0 = (m - 1) + 1 by omega, List.range'_succ]
    rw [e, List.flatMap_cons, sPr_fix T.1 1]
    rfl
/-- the first box hides no box painted before -/
theorem tT_hit (T : tT m 0 q σ) (hO : tOk m q) (h1 : 1 ≤ m) (h2 : m ≤ 39) (hJ : tJ q = 1) : (0 < sWD σ 1 → 0 < sHT σ 1 → ¬ sHit σ (sX σ 1) (sY σ 1) < 1) ∧ ¬ sHit σ (sX σ 1) (sY σ 1) < -1 := by
  have p := tT_pr T h1
  have sh : sSh σ 1 = true := tT_sh T (by decide) (show 0 < m - 0 by omega)
  have z0 : (0 : Int32).toInt = 0 := rfl
  have z1 : (1 : Int32).toInt = 1 := rfl
  have zm : (-1 : Int32).toInt = -1 := rfl
  refine ⟨fun hw hh c => ?_, fun c => ?_⟩
  · have bx := tT_x1 T hO h1 h2 hJ
    have bw := sWD_rng T.1 sh
    have bh := sHT_rng T.1 sh
    have oa := hO.2.2.1
    have om := (hO.2.2.2 0 (by omega)).2.2.1
    have ey : sY σ 1 = tA q + tM q 0 := tT_y T (show 0 < m by omega) (by
      rw [tT_ln T]
      rfl)
    have ty : (tA q + tM q 0).toInt = (tA q).toInt + (tM q 0).toInt := by
      rw [Int32.toInt_add]
      apply Int.bmod_eq_of_le <;> omega
    rw [zi_lt, z0] at hw hh
    have a1 : (sX σ 1 + sWD σ 1).toInt = (sX σ 1).toInt + (sWD σ 1).toInt := by
      rw [Int32.toInt_add]
      apply Int.bmod_eq_of_le <;> omega
    have a2 : (sY σ 1 + sHT σ 1).toInt = (sY σ 1).toInt + (sHT σ 1).toInt := by
      rw [Int32.toInt_add, ey, ty]
      apply Int.bmod_eq_of_le <;> omega
    have cov : scov σ (sX σ 1) (sY σ 1) 1 = true := by
      unfold scov
      rw [decide_eq_true (Int32.le_refl (sX σ 1)), decide_eq_true ((zi_lt _ _).mpr (show (sX σ 1).toInt < (sX σ 1 + sWD σ 1).toInt by rw [a1]; omega)), decide_eq_true (Int32.le_refl (sY σ 1)), decide_eq_true ((zi_lt _ _).mpr (show (sY σ 1).toInt < (sY σ 1 + sHT σ 1).toInt by rw [a2]; omega))]
      rfl
    have g := zlast_ge1 p.1 p.2.1 p.2.2 cov 38
    have g : 1 ≤ (sHit σ (sX σ 1) (sY σ 1)).toInt := g
    rw [zi_lt, z1] at c
    omega
  · have g := zlast_ge (f := scov σ (sX σ 1) (sY σ 1)) p.1 40
    have g : -1 ≤ (sHit σ (sX σ 1) (sY σ 1)).toInt := g
    rw [zi_lt, zm] at c
    omega
end
end ZT5
