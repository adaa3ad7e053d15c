section ZPLC
theorem zm_pos {m : Nat} (hm : 1 ≤ m) (hm2 : m ≤ 40) : ¬ nI m < 1 := fun q => by
  have := (zi_lt _ _).mp q
  have e1 : (1 : Int32).toInt = 1 := rfl
  have e2 : (nI m).toInt = (m : Int) := nI_toInt (by omega)
  omega
theorem zm_one {m : Nat} (hm2 : m ≤ 40) : 1 < nI m ↔ 1 < m := by
  rw [zi_lt]
  have e1 : (1 : Int32).toInt = 1 := rfl
  have e2 : (nI m).toInt = (m : Int) := nI_toInt (by omega)
  omega
theorem zm1_ne {m : Nat} (hm2 : m ≤ 40) (h : 1 < nI m) : ¬ nI m - 1 = 0 := fun q => by
  have h1 := (zm_one hm2).mp h
  have e2 : (nI m).toInt = (m : Int) := nI_toInt (by omega)
  have e3 : (nI m - 1).toInt = (m : Int) - 1 := by
    rw [Int32.toInt_sub, e2]
    apply Int.bmod_eq_of_le
    · show -(2 ^ 32 : Int) / 2 ≤ (m : Int) - 1
      omega
    · show (m : Int) - 1 < _
      omega
  rw [q] at e3
  have : (0 : Int32).toInt = 0 := rfl
  omega
theorem zp1_ne {m : Nat} (hm2 : m ≤ 40) : ¬ nI m + 1 = 0 := fun q => by
  rw [nI_1] at q
  have e2 : (nI (m + 1)).toInt = ((m + 1 : Nat) : Int) := nI_toInt (by omega)
  rw [q] at e2
  have : (0 : Int32).toInt = 0 := rfl
  omega
/-- what placeLine leaves: the boxes a .. z - 1 of p in a line from tp on, hg high -/
def zplQ (σ : zS) (p a z : Nat) (tp hg : Int32) (I : Nat → Nat → Int32) (P : Nat → Nat → Option Nat) (J : Nat → Nat → Int64) : Option Value → (Nat → Nat → Int32) → (Nat → Nat → Option Nat) → (Nat → Nat → Int64) → Prop := fun v I' P' J' => v = none ∧ P' = P ∧ J' = J ∧
  zsetv [15, 12, 13] (sKids σ p) a z (fun i j => if j = 15 then sRoH σ (kd σ p i) hg else if j = 12 then I p 12 + sSt σ p 5 + sAlo σ p (sWD σ) (sIn (sWD σ p) (sSt σ p 5)) a z i else tp + sAcr σ (kd σ p i) (sRoH σ (kd σ p i) hg) hg) I I'
/-- what placeRow and placeColumn leave -/
def zplcQ (σ : zS) (p : Nat) (I : Nat → Nat → Int32) (P : Nat → Nat → Option Nat) (J : Nat → Nat → Int64) : Option Value → (Nat → Nat → Int32) → (Nat → Nat → Option Nat) → (Nat → Nat → Int64) → Prop := fun v I' P' J' => v = none ∧ P' = P ∧ J' = J ∧
  (∀ q j, ¬ ((j = 12 ∨ j = 13 ∨ j = 15) ∧ q ∈ sKids σ p) → ¬ (q = 83 ∧ (j = 9 ∨ j = 10)) → ¬ (86 ≤ q ∧ q ≤ 94) → I' q j = I q j) ∧
  ∀ i q, (sKids σ p)[i]? = some q → I' q 15 = sKH σ p (sHT σ p) i ∧ I' q 12 = I p 12 + sSt σ p 5 + sKX σ p i ∧ I' q 13 = I p 13 + sSt σ p 5 + sKY σ p i
/-- the values of a row's kids, from what its own place is -/
def zrv (σ : zS) (p : Nat) (I : Nat → Nat → Int32) : Nat → Nat → Int32 := fun i j => if j = 15 then sKH σ p (sHT σ p) i else if j = 12 then I p 12 + sSt σ p 5 + sKX σ p i else I p 13 + sSt σ p 5 + sKY σ p i
theorem zrv_end {σ : zS} {p : Nat} {I I' : Nat → Nat → Int32} {P : Nat → Nat → Option Nat} {J : Nat → Nat → Int64} (h : zsetv [15, 12, 13] (sKids σ p) 0 (kn σ p) (zrv σ p I) I I') : zplcQ σ p I P J none I' P J := by
  refine ⟨rfl, rfl, rfl, fun q j h1 _ _ => h.1 q j (fun z => ?_), fun i q hq => ?_⟩
  · obtain ⟨z1, k, _, _, z2⟩ := z
    refine h1 ⟨?_, List.mem_of_getElem? z2⟩
    simp at z1
    omega
  · have hi := (List.getElem?_eq_some_iff.mp hq).1
    exact ⟨h.2 i q (Nat.zero_le _) hi hq 15 (by simp), h.2 i q (Nat.zero_le _) hi hq 12 (by simp), h.2 i q (Nat.zero_le _) hi hq 13 (by simp)⟩
/-- a line's values are the row's -/
theorem zrv_line {σ : zS} (hw : sWF σ) {p : Nat} (hrow : ¬ sSt σ p 0 = 1) {I : Nat → Nat → Int32} {a l : Nat} (ha : a < kn σ p) (hal : zbeg (sLn σ (sNW σ) p (sWD σ p)) a = a ∧ sLn σ (sNW σ) p (sWD σ p) a = l) {tp hg : Int32} (htp : tp = I p 13 + sSt σ p 5 + zsum (fun l => sHg σ p (sHT σ p) l + sSt σ p 4) l) (hhg : hg = sHg σ p (sHT σ p) l) : ∀ i, a ≤ i → i < zend (sLn σ (sNW σ) p (sWD σ p)) (kn σ p) a → ∀ j ∈ [15, 12, 13], (if j = 15 then sRoH σ (kd σ p i) hg else if j = 12 then I p 12 + sSt σ p 5 + sAlo σ p (sWD σ) (sIn (sWD σ p) (sSt σ p 5)) a (zend (sLn σ (sNW σ) p (sWD σ p)) (kn σ p) a) i else tp + sAcr σ (kd σ p i) (sRoH σ (kd σ p i) hg) hg) = zrv σ p I i j := by
  intro i h1 h2 j hj
  have hz := zend_spec (ln := sLn σ (sNW σ) p (sWD σ p)) ha
  have hi : i < kn σ p := by omega
  have el : sLn σ (sNW σ) p (sWD σ p) i = l := (hz.2.2.1 i h1 h2).trans hal.2
  have eb : zbeg (sLn σ (sNW σ) p (sWD σ p)) i = a := (zend_beg ha hal.1).1 i h1 h2
  have e15 : sRoH σ (kd σ p i) hg = sKH σ p (sHT σ p) i := by
    unfold sKH
    rw [if_neg hrow, el, hhg]
  unfold zrv
  by_cases j1 : j = 15
  · rw [if_pos j1, if_pos j1, e15]
  · by_cases j2 : j = 12
    · rw [if_neg j1, if_neg j1, if_pos j2, if_pos j2]
      unfold sKX
      rw [if_neg hrow, eb]
    · rw [if_neg j1, if_neg j1, if_neg j2, if_neg j2, e15, htp]
      unfold sKY
      rw [if_neg hrow, el, hhg, sHT_kd hw hi, Int32.add_assoc]
theorem zdiff (x : Int32) (f : Nat → Int32) (n : Nat) : x - zsum f n - f n = x - zsum f (n + 1) := zss _ _ _
/-- a column's kids: the heights are given already -/
theorem zcolQ {σ : zS} (hw : sWF σ) {p : Nat} (hcol : sSt σ p 0 = 1) {I I1 I2 : Nat → Nat → Int32} {P : Nat → Nat → Option Nat} {J : Nat → Nat → Int64}
    (hf : ∀ q j, ¬ (q = 83 ∧ (j = 9 ∨ j = 10)) → ¬ (86 ≤ q ∧ q ≤ 94) → ¬ (j = 15 ∧ q ∈ sKids σ p) → I1 q j = I q j) (hh : ∀ i q, (sKids σ p)[i]? = some q → I1 q 15 = sKH σ p (sHT σ p) i)
    (h : zsetv [12, 13] (sKids σ p) 0 (kn σ p) (fun i j => if j = 12 then I p 12 + sSt σ p 5 + sKX σ p i else I p 13 + sSt σ p 5 + sKY σ p i) I1 I2) : zplcQ σ p I P J none I2 P J := by
  refine ⟨rfl, rfl, rfl, fun q j h1 h2 h3 => ?_, fun i q hq => ?_⟩
  · rw [h.1 q j (fun z => by
      obtain ⟨z1, k, _, _, z2⟩ := z
      refine h1 ⟨?_, List.mem_of_getElem? z2⟩
      simp at z1
      omega)]
    exact hf q j h2 h3 (fun z => h1 ⟨Or.inr (Or.inr z.1), z.2⟩)
  · have hi := (List.getElem?_eq_some_iff.mp hq).1
    refine ⟨?_, h.2 i q (Nat.zero_le _) hi hq 12 (by simp), h.2 i q (Nat.zero_le _) hi hq 13 (by simp)⟩
    rw [h.oth (by decide)]
    exact hh i q hq
end ZPLC
