section ZMD
theorem nI_mul (a b : Nat) : nI a * nI b = nI (a * b) := (Int32.ofNat_mul a b).symm
theorem zix (b k : Nat) : (43 : Int32) + 20 * nI b + nI k = nI (43 + 20 * b + k) := by
  rw [show (43 : Int32) = nI 43 from rfl, show (20 : Int32) = nI 20 from rfl, nI_mul, nI_add, nI_add]
theorem zix2 (b k : Nat) : (2 : Int32) * nI b + nI k = nI (2 * b + k) := by
  rw [show (2 : Int32) = nI 2 from rfl, nI_mul, nI_add]
theorem zix3 (b : Nat) : (3 : Int32) + nI b = nI (3 + b) := nI_add 3 b
/-- the model's memory holds the tree -/
def zMd (σ : zS) (I : Nat → Nat → Int32) : Prop := sWF σ ∧ I 96 0 = nI (sGv σ) ∧ I 96 1 = sVw σ ∧ I 96 2 = sVh σ ∧ (∀ b, b < sGv σ → I 96 (3 + b) = if sEx σ b = true then sPnu σ b else -2) ∧ ∀ b k, sEx σ b = true → k < 20 → I 96 (43 + 20 * b + k) = sSt σ b k
theorem zMd.eq {σ : zS} {I I' : Nat → Nat → Int32} (h : zMd σ I) (e : ∀ k, I' 96 k = I 96 k) : zMd σ I' := by
  obtain ⟨h1, h2, h3, h4, h5, h6⟩ := h
  exact ⟨h1, by rw [e]; exact h2, by rw [e]; exact h3, by rw [e]; exact h4, fun b hb => by rw [e]; exact h5 b hb, fun b k hb hk => by rw [e]; exact h6 b k hb hk⟩
theorem zMd.u {σ : zS} {I : Nat → Nat → Int32} (h : zMd σ I) {i k : Nat} {v : Int32} (hi : 96 ≠ i) : zMd σ (z_u I i k v) := h.eq (fun k => z_u_a _ _ hi)
theorem zMd.lt {σ : zS} {I : Nat → Nat → Int32} (h : zMd σ I) {b : Nat} (he : sEx σ b = true) : b < sGv σ ∧ b < 40 := ⟨h.1.2.2.2.1 b he, Nat.lt_of_lt_of_le (h.1.2.2.2.1 b he) h.1.2.2.1⟩
theorem zMd.gv {σ : zS} {I : Nat → Nat → Int32} (h : zMd σ I) : 1 ≤ sGv σ ∧ sGv σ ≤ 40 := ⟨h.1.2.1, h.1.2.2.1⟩
theorem zMd.pa {σ : zS} {I : Nat → Nat → Int32} (h : zMd σ I) {b : Nat} (he : sEx σ b = true) : I 96 (3 + b) = sPnu σ b := by
  rw [h.2.2.2.2.1 b (h.lt he).1, if_pos he]
def zbx (σ : zS) (x : Int32) : Bool := decide (0 ≤ x) && (decide (x < 40) && sEx σ x.toInt.toNat)
theorem zbx_nI {σ : zS} {b : Nat} (hb : b < 40) : zbx σ (nI b) = sEx σ b := by
  have h := nI_40 hb
  have e : (nI b).toInt = (b : Int) := nI_toInt (by omega)
  unfold zbx
  rw [decide_eq_true h.1, decide_eq_true h.2, e]
  rfl
theorem zbx_iff {σ : zS} {x : Int32} : zbx σ x = true ↔ sBx σ x := by
  constructor
  · intro h
    unfold zbx at h
    simp only [Bool.and_eq_true, decide_eq_true_eq] at h
    obtain ⟨k, hk, rfl⟩ := zi_nI (n := 40) (by decide) h.1 h.2.1
    refine ⟨k, rfl, hk, ?_⟩
    have e : (nI k).toInt = (k : Int) := nI_toInt (by omega)
    rw [e] at h
    exact h.2.2
  · rintro ⟨b, rfl, hb, he⟩
    rw [zbx_nI hb]
    exact he
theorem sPnu_ge {σ : zS} (hw : sWF σ) {b : Nat} (he : sEx σ b = true) : ¬ sPnu σ b < -1 := by
  unfold sPnu
  split
  · decide
  · rename_i h0
    have h1 := hw.2.2.2.2.1 b he h0
    have h2 := hw.2.2.2.1 _ h1.2
    have h3 := hw.2.2.1
    intro q
    rw [zi_lt, nI_toInt (by omega)] at q
    have e : (-1 : Int32).toInt = -1 := rfl
    omega
theorem zK_S {σ : zS} (hw : sWF σ) {b p : Nat} (hp : p < 40) (he : sEx σ b = true) : decide (sPnu σ b = nI p) = sK σ p b := by
  unfold sPnu sK
  by_cases h0 : b = 0
  · rw [if_pos h0, decide_eq_false (show ¬ b ≠ 0 from fun q => q h0), decide_eq_false]
    · rfl
    · intro q
      rw [zi_eq, nI_toInt (by omega)] at q
      have e : (-1 : Int32).toInt = -1 := rfl
      omega
  · have h1 := hw.2.2.2.2.1 b he h0
    have h2 := hw.2.2.2.1 _ h1.2
    have h3 := hw.2.2.1
    rw [if_neg h0, decide_eq_true h0, he, Bool.true_and, Bool.true_and]
    apply decide_eq_decide.mpr
    exact nI_eq (by omega) (by omega)
theorem zord {σ : zS} (hw : sWF σ) {b c : Nat} (hb : sEx σ b = true) (hc : sEx σ c = true) : (sSt σ b 17 - sSt σ c 17 < 0 ↔ sSt σ b 17 < sSt σ c 17) ∧ (sSt σ b 17 - sSt σ c 17 = 0 ↔ sSt σ b 17 = sSt σ c 17) := by
  have h1 := sSt_rng hw hb (k := 17) (by decide)
  have h2 := sSt_rng hw hc (k := 17) (by decide)
  have e0 : (z_st 0 17).toInt = -9 := by decide
  have e1 : (z_st 1 17).toInt = 9 := by decide
  rw [e0, e1] at h1 h2
  have e : (sSt σ b 17 - sSt σ c 17).toInt = (sSt σ b 17).toInt - (sSt σ c 17).toInt := by
    rw [Int32.toInt_sub]
    apply Int.bmod_eq_of_le <;> omega
  have ez : (0 : Int32).toInt = 0 := rfl
  constructor
  · rw [zi_lt, zi_lt, e, ez]; omega
  · rw [zi_eq, zi_eq, e, ez]; omega
theorem zcnt_ge {f : Nat → Bool} {g : Nat} : ∀ {d : Nat}, (∀ b, f b = true → b < g) → sCnt f (g + d) = sCnt f g
  | 0, _ => rfl
  | d + 1, h => by
    show (if f (g + d) = true then sCnt f (g + d) + 1 else sCnt f (g + d)) = _
    rw [if_neg (fun q => by have := h _ q; omega)]
    exact zcnt_ge h
theorem sConN_s {σ : zS} {p n : Nat} : sConN σ p (n + 1) = (sConN σ p n || sK σ p n) := rfl
theorem sCon_ge {σ : zS} (hw : sWF σ) {p : Nat} : ∀ {d : Nat}, sConN σ p (sGv σ + d) = sConN σ p (sGv σ)
  | 0 => rfl
  | d + 1 => by
    show (sConN σ p (sGv σ + d) || sK σ p (sGv σ + d)) = _
    have : sK σ p (sGv σ + d) = false := by
      by_cases q : sK σ p (sGv σ + d) = true
      · have := hw.2.2.2.1 _ (sK_iff.mp q).2.1
        omega
      · simpa using q
    rw [this, Bool.or_false]
    exact sCon_ge hw
theorem sCon_lo {σ : zS} (hw : sWF σ) {p : Nat} : ∀ {n : Nat}, n ≤ p + 1 → sConN σ p n = false
  | 0, _ => rfl
  | n + 1, h => by
    show (sConN σ p n || sK σ p n) = false
    rw [sCon_lo hw (by omega), Bool.false_or]
    by_cases q : sK σ p n = true
    · have h1 := sK_iff.mp q
      have h2 := hw.2.2.2.2.1 _ h1.2.1 h1.1
      rw [h1.2.2] at h2
      omega
    · simpa using q
end ZMD
