section ZT6
/-! without the first box: no more lines -/
def tO (q : tP) (j : Nat) : Int32 := tSz q j + 2 * tM q j
def tLU (q : tP) (h : Nat) : Nat → Nat × Int32
  | 0 => (0, tO q h)
  | i + 1 => if tIn q < (tLU q h i).2 + tG q + tO q (i + 1 + h) then ((tLU q h i).1 + 1, tO q (i + 1 + h)) else ((tLU q h i).1, (tLU q h i).2 + tG q + tO q (i + 1 + h))
section
variable {m h : Nat} {q : tP} {σ : zS}
theorem tT_so (T : tT m h q σ) (hh : h ≤ 1) (hO : tOk m q) (nw : Nat → Int32) {i : Nat} (hi : i < m - h) : sSO σ nw 0 i = tO q (i + h) := by
  have b := tT_b T (show i + h < m by omega)
  unfold sSO sB
  rw [tT_kd T hh hi, b.1, b.2.1, b.2.2.2.2.1, b.2.2.2.2.2.1, if_neg (fun z => by
    have o := (hO.2.2.2 (i + h) (by omega)).2.2.2.1.1
    rw [z] at o
    exact absurd o (by decide))]
  rfl
theorem tT_lu1 (T : tT m h q σ) (hh : h ≤ 1) (hO : tOk m q) (hR : tR q = 1) (nw : Nat → Int32) : ∀ i, i < m - h → sLU σ nw 0 (sWD σ 0) i = tLU q h i
  | 0, hi => by
    show (0, sSO σ nw 0 0) = (0, tO q h)
    rw [tT_so T hh hO nw hi, Nat.zero_add]
  | i + 1, hi => by
    have ih := tT_lu1 T hh hO hR nw i (by omega)
    have r := tT_r T
    unfold sLU tLU
    rw [ih, tT_so T hh hO nw hi, r.2.1, hR, r.2.2.2.2.1, r.2.2.2.2.2, tT_0 T]
    by_cases c : tIn q < (tLU q h i).2 + tG q + tO q (i + 1 + h)
    · rw [if_pos c]
      exact if_pos ⟨rfl, c⟩
    · rw [if_neg c]
      exact if_neg (fun z => c z.2)
theorem tO_rng (hO : tOk m q) {j : Nat} (hj : j < m) : 0 ≤ (tO q j).toInt ∧ (tO q j).toInt ≤ 10050 := by
  have a := tSz_rng hO hj
  have b := (hO.2.2.2 j hj).2.2.1
  have c := tM2 hO hj
  have d : (tO q j).toInt = (tSz q j).toInt + (2 * tM q j).toInt := by
    unfold tO
    rw [Int32.toInt_add]
    apply Int.bmod_eq_of_le <;> omega
  rw [d]
  omega
theorem tLU_rng (hO : tOk m q) (h2 : m ≤ 39) : ∀ i, i + h < m → 0 ≤ (tLU q h i).2.toInt ∧ (tLU q h i).2.toInt ≤ (i + 1) * 10100
  | 0, hi => by
    have a := tO_rng hO (show h < m by omega)
    show 0 ≤ (tO q h).toInt ∧ (tO q h).toInt ≤ ((0 : Nat) + 1 : Int) * 10100
    omega
  | i + 1, hi => by
    have ih := tLU_rng hO h2 i (by omega)
    have a := tO_rng hO (show i + 1 + h < m by omega)
    have g := hO.2.1
    have e1 : ((tLU q h i).2 + tG q).toInt = (tLU q h i).2.toInt + (tG q).toInt := by
      rw [Int32.toInt_add]
      apply Int.bmod_eq_of_le <;> omega
    have e2 : ((tLU q h i).2 + tG q + tO q (i + 1 + h)).toInt = (tLU q h i).2.toInt + (tG q).toInt + (tO q (i + 1 + h)).toInt := by
      rw [Int32.toInt_add, e1]
      apply Int.bmod_eq_of_le <;> omega
    unfold tLU
    by_cases c : tIn q < (tLU q h i).2 + tG q + tO q (i + 1 + h)
    · rw [if_pos c]
      show 0 ≤ (tO q (i + 1 + h)).toInt ∧ (tO q (i + 1 + h)).toInt ≤ _
      omega
    · rw [if_neg c]
      show 0 ≤ ((tLU q h i).2 + tG q + tO q (i + 1 + h)).toInt ∧ ((tLU q h i).2 + tG q + tO q (i + 1 + h)).toInt ≤ _
      rw [e2]
      omega
/-- the step, in whole numbers -/
theorem tLU_s (hO : tOk m q) (h2 : m ≤ 39) {i : Nat} (hi : i + 1 + h < m) : ((tIn q).toInt < (tLU q h i).2.toInt + (tG q).toInt + (tO q (i + 1 + h)).toInt ∧ (tLU q h (i + 1)).1 = (tLU q h i).1 + 1 ∧ (tLU q h (i + 1)).2.toInt = (tO q (i + 1 + h)).toInt) ∨ (¬ (tIn q).toInt < (tLU q h i).2.toInt + (tG q).toInt + (tO q (i + 1 + h)).toInt ∧ (tLU q h (i + 1)).1 = (tLU q h i).1 ∧ (tLU q h (i + 1)).2.toInt = (tLU q h i).2.toInt + (tG q).toInt + (tO q (i + 1 + h)).toInt) := by
  have ih := tLU_rng hO h2 (h := h) i (by omega)
  have a := tO_rng hO hi
  have g := hO.2.1
  have e1 : ((tLU q h i).2 + tG q).toInt = (tLU q h i).2.toInt + (tG q).toInt := by
    rw [Int32.toInt_add]
    apply Int.bmod_eq_of_le <;> omega
  have e2 : ((tLU q h i).2 + tG q + tO q (i + 1 + h)).toInt = (tLU q h i).2.toInt + (tG q).toInt + (tO q (i + 1 + h)).toInt := by
    rw [Int32.toInt_add, e1]
    apply Int.bmod_eq_of_le <;> omega
  have eu : tLU q h (i + 1) = if tIn q < (tLU q h i).2 + tG q + tO q (i + 1 + h) then ((tLU q h i).1 + 1, tO q (i + 1 + h)) else ((tLU q h i).1, (tLU q h i).2 + tG q + tO q (i + 1 + h)) := rfl
  rw [eu]
  by_cases c : tIn q < (tLU q h i).2 + tG q + tO q (i + 1 + h)
  · rw [if_pos c]
    rw [zi_lt, e2] at c
    exact Or.inl ⟨c, rfl, rfl⟩
  · rw [if_neg c]
    rw [zi_lt, e2] at c
    exact Or.inr ⟨c, rfl, e2⟩
/-- with the first box the state is never ahead of that without it -/
theorem tLU_dom (hO : tOk m q) (h2 : m ≤ 39) : ∀ i, i + 1 < m → (tLU q 1 i).1 < (tLU q 0 (i + 1)).1 ∨ ((tLU q 1 i).1 = (tLU q 0 (i + 1)).1 ∧ (tLU q 1 i).2.toInt ≤ (tLU q 0 (i + 1)).2.toInt)
  | 0, hi => by
    have s := tLU_s hO h2 (h := 0) (i := 0) (by omega)
    have a := tO_rng hO (show 0 < m by omega)
    have g := hO.2.1
    have e0 : (tLU q 1 0).1 = 0 := rfl
    have e1 : (tLU q 1 0).2 = tO q 1 := rfl
    have e2 : (tLU q 0 0).1 = 0 := rfl
    have e3 : (tLU q 0 0).2 = tO q 0 := rfl
    have e4 : (tO q (0 + 1 + 0)) = tO q 1 := rfl
    rw [e2, e3, e4] at s
    rw [e0, e1]
    rcases s with ⟨_, s2, s3⟩ | ⟨_, s2, s3⟩
    · left
      rw [s2]
      omega
    · right
      rw [s2, s3]
      exact ⟨rfl, by omega⟩
  | i + 1, hi => by
    have ih := tLU_dom hO h2 i (by omega)
    have s0 := tLU_s hO h2 (h := 0) (i := i + 1) (by omega)
    have s1 := tLU_s hO h2 (h := 1) (i := i) (by omega)
    have r0 := tLU_rng hO h2 (h := 0) (i + 1) (by omega)
    have g := hO.2.1
    have e : tO q (i + 1 + 1 + 0) = tO q (i + 1 + 1) := rfl
    rw [e] at s0
    generalize (tO q (i + 1 + 1)).toInt = o at s0 s1
    generalize (tLU q 0 (i + 1)).2.toInt = u0 at s0 r0 ih
    generalize (tLU q 1 i).2.toInt = u1 at s1 ih
    generalize (tLU q 0 (i + 1 + 1)).2.toInt = v0 at s0 ⊢
    generalize (tLU q 1 (i + 1)).2.toInt = v1 at s1 ⊢
    generalize (tLU q 0 (i + 1)).1 = l0 at s0 ih
    generalize (tLU q 1 i).1 = l1 at s1 ih
    generalize (tLU q 0 (i + 1 + 1)).1 = k0 at s0 ⊢
    generalize (tLU q 1 (i + 1)).1 = k1 at s1 ⊢
    omega
/-- how many lines, with and without it -/
theorem tT_hid {σ' : zS} (T : tT m 0 q σ) (T' : tT m 1 q σ') (hO : tOk m q) (hR : tR q = 1) (h1 : 1 ≤ m) (h2 : m ≤ 39) : ¬ sLC σ (sNW σ) 0 (sWD σ 0) < sLC σ' (sNW σ') 0 (sWD σ' 0) := by
  have e := tT_lc T h1 (sNW σ) (sWD σ 0)
  have hk := tT_kn T (by decide)
  have hk' := tT_kn T' (by decide)
  have e' : sLC σ' (sNW σ') 0 (sWD σ' 0) = nI (sLCn σ' (sNW σ') 0 (sWD σ' 0)) := by
    unfold sLC
    rw [if_pos (tT_con T' h1)]
  have key : sLCn σ' (sNW σ') 0 (sWD σ' 0) ≤ sLCn σ (sNW σ) 0 (sWD σ 0) := by
    by_cases c : m = 1
    · have z : sLCn σ' (sNW σ') 0 (sWD σ' 0) = 0 := by
        unfold sLCn
        rw [hk', if_pos (by omega)]
      rw [z]
      exact Nat.zero_le _
    · have z : sLCn σ (sNW σ) 0 (sWD σ 0) = (tLU q 0 (m - 2 + 1)).1 + 1 := by
        unfold sLCn
        rw [hk, if_neg (by omega), tT_ln T, tT_lu1 T (by decide) hO hR _ _ (by omega)]
        rw [show m - 0 - 1 = m - 2 + 1 by omega]
      have z' : sLCn σ' (sNW σ') 0 (sWD σ' 0) = (tLU q 1 (m - 2)).1 + 1 := by
        unfold sLCn
        rw [hk', if_neg (by omega), tT_ln T', tT_lu1 T' (by decide) hO hR _ _ (by omega)]
        rw [show m - 1 - 1 = m - 2 by omega]
      have d := tLU_dom hO h2 (m - 2) (by omega)
      rw [z, z']
      omega
  intro c
  rw [e.1, e', zi_lt, nI_toInt (by omega), nI_toInt (by omega)] at c
  omega
theorem tT_chl (T : tT m 1 q σ) : sChl σ 0 (-1) = nI (m - 1) := by
  unfold sChl
  rw [if_pos rfl, tT_kn T (by decide)]
end
end ZT6
