section ZM12
/-- the items of FLEXING as the model reads them: the fr-th kid of p and on, along the axis x -/
abbrev mB (σ : zS) (nat : Nat → Int32) (p fr : Nat) : Nat → Int32 := fun j => sB σ nat (kd σ p (fr + j))
abbrev mLo (σ : zS) (p x fr : Nat) : Nat → Int32 := fun j => sSt σ (kd σ p (fr + j)) (12 + x)
abbrev mHi (σ : zS) (p x fr : Nat) : Nat → Int32 := fun j => sSt σ (kd σ p (fr + j)) (14 + x)
abbrev mM (σ : zS) (p fr : Nat) : Nat → Int32 := fun j => 2 * sSt σ (kd σ p (fr + j)) 6
abbrev mGw (σ : zS) (p fr : Nat) : Nat → Int32 := fun j => sSt σ (kd σ p (fr + j)) 8
abbrev mSk (σ : zS) (p fr : Nat) : Nat → Int32 := fun j => sSt σ (kd σ p (fr + j)) 9
def mRoom (σ : zS) (p fr z : Nat) (sp : Int32) : Int32 := sp - zsum (mM σ p fr) (z - fr) - zgap (nI (z - fr)) (sSt σ p 4)
def mGr (σ : zS) (nat : Nat → Int32) (p x fr z : Nat) (sp : Int32) : Bool := fxGr (z - fr) (mRoom σ p fr z sp) (mB σ nat p fr) (mLo σ p x fr) (mHi σ p x fr)
def mFac (σ : zS) (nat : Nat → Int32) (p x fr z : Nat) (sp : Int32) : Nat → Int32 := fxFac (mGr σ nat p x fr z sp) (mGw σ p fr) (mSk σ p fr) (mB σ nat p fr)
def mSt (σ : zS) (nat : Nat → Int32) (p x fr z : Nat) (sp : Int32) : Nat → Bool := fxSt0 (mGr σ nat p x fr z sp) (mB σ nat p fr) (mLo σ p x fr) (mHi σ p x fr) (mFac σ nat p x fr z sp)
theorem mFx {σ : zS} {nat : Nat → Int32} {p fr z k : Nat} {sp : Int32} (wd : Bool) (hk : fr ≤ k) : sFx σ p wd nat sp fr z k = (fxIt (z - fr) (mGr σ nat p (if wd = true then 0 else 1) fr z sp) (mRoom σ p fr z sp) (mB σ nat p fr) (mLo σ p (if wd = true then 0 else 1) fr) (mHi σ p (if wd = true then 0 else 1) fr) (mFac σ nat p (if wd = true then 0 else 1) fr z sp) (fxStart (mB σ nat p fr) (mLo σ p (if wd = true then 0 else 1) fr) (mHi σ p (if wd = true then 0 else 1) fr), mSt σ nat p (if wd = true then 0 else 1) fr z sp) (z - fr)).1 (k - fr) := by
  cases wd <;> rfl
/-- ranges of the items -/
theorem mrng {σ : zS} (hw : sWF σ) {nat : Nat → Int32} {p x fr z : Nat} (hx : x < 2) (hb : zbd σ p nat) (hz : z ≤ kn σ p) {j : Nat} (hj : j < z - fr) : (0 ≤ (mB σ nat p fr j).toInt ∧ (mB σ nat p fr j).toInt ≤ 10000) ∧ (0 ≤ (mLo σ p x fr j).toInt ∧ (mLo σ p x fr j).toInt ≤ 1000) ∧ (0 ≤ (mHi σ p x fr j).toInt ∧ (mHi σ p x fr j).toInt ≤ 10000) ∧ (0 ≤ (mM σ p fr j).toInt ∧ (mM σ p fr j).toInt ≤ 100) ∧ (0 ≤ (mGw σ p fr j).toInt ∧ (mGw σ p fr j).toInt ≤ 9) ∧ (0 ≤ (mSk σ p fr j).toInt ∧ (mSk σ p fr j).toInt ≤ 9) := by
  have hm := kd_mem (σ := σ) (p := p) (i := fr + j) (by omega)
  have he := (sKids_lt hw hm).2.2.1
  have q := sSt_p hw he
  refine ⟨sB_rng hw he (hb _ hm), ?_, ?_, ?_, q.1, q.2.1⟩
  · rcases (show x = 0 ∨ x = 1 by omega) with e | e
    · subst e; exact q.2.2.2.2.2.1
    · subst e; exact q.2.2.2.2.2.2.1
  · rcases (show x = 0 ∨ x = 1 by omega) with e | e
    · subst e; exact q.2.2.2.2.2.2.2.1
    · subst e; exact q.2.2.2.2.2.2.2.2.1
  · have e2 : (2 * sSt σ (kd σ p (fr + j)) 6).toInt = 2 * (sSt σ (kd σ p (fr + j)) 6).toInt := by
      have := q.2.2.1
      rw [Int32.toInt_mul]
      apply Int.bmod_eq_of_le
      · show -(2 ^ 32 : Int) / 2 ≤ 2 * _
        omega
      · show (2 : Int) * _ < _
        omega
    show 0 ≤ (2 * sSt σ (kd σ p (fr + j)) 6).toInt ∧ (2 * sSt σ (kd σ p (fr + j)) 6).toInt ≤ 100
    rw [e2]
    have := q.2.2.1
    omega
theorem zgap_rng {σ : zS} (hw : sWF σ) {p : Nat} (he : sEx σ p = true) {n : Nat} (hn : n ≤ 40) : 0 ≤ (zgap (nI n) (sSt σ p 4)).toInt ∧ (zgap (nI n) (sSt σ p 4)).toInt ≤ 100000 := by
  have q := (sSt_p hw he).2.2.2.1
  unfold zgap
  by_cases h : 1 < nI n
  · rw [if_pos h]
    have h1 := (zm_one hn).mp h
    have e : nI n - 1 = nI (n - 1) := by
      rw [show n = (n - 1) + 1 by omega, ← nI_1, Int32.add_sub_cancel]
      rfl
    have e1 : (nI (n - 1)).toInt = ((n - 1 : Nat) : Int) := nI_toInt (by omega)
    have hp0 : 0 ≤ (nI (n - 1)).toInt * (sSt σ p 4).toInt := Int.mul_nonneg (by omega) q.1
    have hp1 : (nI (n - 1)).toInt * (sSt σ p 4).toInt ≤ 40 * 50 := Int.mul_le_mul (by omega) q.2 q.1 (by decide)
    have e2 : ((nI n - 1) * sSt σ p 4).toInt = (nI (n - 1)).toInt * (sSt σ p 4).toInt := by
      rw [e, Int32.toInt_mul]
      apply Int.bmod_eq_of_le <;> omega
    rw [e2]
    omega
  · rw [if_neg h]
    have z0 : (0 : Int32).toInt = 0 := rfl
    omega
end ZM12
