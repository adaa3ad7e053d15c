section ZML
theorem zend_eq {ln : Nat → Nat} {n a t : Nat} (h1 : a < t) (h2 : t ≤ n) (h3 : ∀ k, a ≤ k → k < t → ln k = ln a) (h4 : t < n → ln t ≠ ln a) : zend ln n a = t := by
  obtain ⟨z1, z2, z3, z4⟩ := zend_spec (ln := ln) (n := n) (a := a) (by omega)
  rcases Nat.lt_trichotomy (zend ln n a) t with e | e | e
  · exact absurd (h3 _ (Nat.le_of_lt z1) e) (z4 (by omega))
  · exact e
  · exact absurd (z3 t (by omega) e) (h4 (by omega))
theorem sLU_beg {σ : zS} {nw : Nat → Int32} {p : Nat} {W : Int32} (hrow : ¬ sSt σ p 0 = 1) : ∀ {a : Nat}, zbeg (sLn σ nw p W) a = a → (sLU σ nw p W a).2 = sSO σ nw p a
  | 0, _ => rfl
  | a + 1, h => by
    have e : sLU σ nw p W (a + 1) = if sSt σ p 1 = 1 ∧ sIn W (sSt σ p 5) < (sLU σ nw p W a).2 + sSt σ p 4 + sSO σ nw p (a + 1) then ((sLU σ nw p W a).1 + 1, sSO σ nw p (a + 1)) else ((sLU σ nw p W a).1, (sLU σ nw p W a).2 + sSt σ p 4 + sSO σ nw p (a + 1)) := rfl
    by_cases c : sSt σ p 1 = 1 ∧ sIn W (sSt σ p 5) < (sLU σ nw p W a).2 + sSt σ p 4 + sSO σ nw p (a + 1)
    · rw [e, if_pos c]
    · rw [if_neg c] at e
      have hl : sLn σ nw p W (a + 1) = sLn σ nw p W a := by
        unfold sLn
        rw [if_neg hrow, if_neg hrow, e]
      have hz : zbeg (sLn σ nw p W) (a + 1) = zbeg (sLn σ nw p W) a := if_pos hl
      have := zbeg_le (ln := sLn σ nw p W) a
      omega
theorem sLU_go {σ : zS} {nw : Nat → Int32} {p : Nat} {W : Int32} (hrow : ¬ sSt σ p 0 = 1) {t : Nat} (h : ¬ sIn W (sSt σ p 5) < (sLU σ nw p W t).2 + sSt σ p 4 + sSO σ nw p (t + 1)) : sLn σ nw p W (t + 1) = sLn σ nw p W t ∧ (sLU σ nw p W (t + 1)).2 = (sLU σ nw p W t).2 + sSt σ p 4 + sSO σ nw p (t + 1) := by
  have e : sLU σ nw p W (t + 1) = ((sLU σ nw p W t).1, (sLU σ nw p W t).2 + sSt σ p 4 + sSO σ nw p (t + 1)) := if_neg (fun q => h q.2)
  refine ⟨?_, by rw [e]⟩
  unfold sLn
  rw [if_neg hrow, if_neg hrow, e]
theorem sLU_br {σ : zS} {nw : Nat → Int32} {p : Nat} {W : Int32} (hrow : ¬ sSt σ p 0 = 1) (hwr : sSt σ p 1 = 1) {t : Nat} (h : sIn W (sSt σ p 5) < (sLU σ nw p W t).2 + sSt σ p 4 + sSO σ nw p (t + 1)) : sLn σ nw p W (t + 1) = sLn σ nw p W t + 1 := by
  have e : sLU σ nw p W (t + 1) = ((sLU σ nw p W t).1 + 1, sSO σ nw p (t + 1)) := if_pos ⟨hwr, h⟩
  unfold sLn
  rw [if_neg hrow, if_neg hrow, e]
theorem swr {σ : zS} (hw : sWF σ) {p : Nat} (he : sEx σ p = true) (h : ¬ sSt σ p 1 = 0) : sSt σ p 1 = 1 := by
  have q := sSt_rng hw he (k := 1) (by decide)
  have e0 : (z_st 0 1).toInt = 0 := by decide
  have e1 : (z_st 1 1).toInt = 1 := by decide
  rw [e0, e1] at q
  have z0 : (0 : Int32).toInt = 0 := rfl
  have z1 : (1 : Int32).toInt = 1 := rfl
  rw [zi_eq] at h ⊢
  omega
/-- endOfLine's way along the line that begins at a -/
def zel (σ : zS) (nw : Nat → Int32) (p : Nat) (W : Int32) (a t : Nat) (mo : Bool) (u : Int32) : Prop := a < t ∧ t ≤ kn σ p ∧ (∀ k, a ≤ k → k < t → sLn σ nw p W k = sLn σ nw p W a) ∧ (mo = true → u = (sLU σ nw p W (t - 1)).2) ∧ (mo = false → t < kn σ p ∧ sLn σ nw p W t ≠ sLn σ nw p W a)
theorem zel_0 {σ : zS} {nw : Nat → Int32} {p : Nat} {W : Int32} {a : Nat} (ha : a < kn σ p) : zel σ nw p W a (a + 1) true (sLU σ nw p W a).2 := ⟨by omega, by omega, fun k h1 h2 => by rw [show k = a by omega], fun _ => rfl, fun q => (by cases q)⟩
theorem zel_go {σ : zS} {nw : Nat → Int32} {p : Nat} {W : Int32} (hrow : ¬ sSt σ p 0 = 1) {a t : Nat} {u : Int32} (h : zel σ nw p W a t true u) (ht : t < kn σ p) (hu : ¬ sIn W (sSt σ p 5) < u + sSt σ p 4 + sSO σ nw p t) : zel σ nw p W a (t + 1) true (u + sSt σ p 4 + sSO σ nw p t) := by
  obtain ⟨h1, h2, h3, h4, _⟩ := h
  have e := h4 rfl
  obtain ⟨s, rfl⟩ : ∃ s, t = s + 1 := ⟨t - 1, by omega⟩
  rw [show s + 1 - 1 = s from rfl] at e
  subst e
  have q := sLU_go hrow hu
  refine ⟨by omega, by omega, fun k k1 k2 => ?_, fun _ => q.2.symm, fun z => (by cases z)⟩
  by_cases e : k = s + 1
  · rw [e, q.1]; exact h3 s (by omega) (by omega)
  · exact h3 k k1 (by omega)
theorem zel_br {σ : zS} {nw : Nat → Int32} {p : Nat} {W : Int32} (hrow : ¬ sSt σ p 0 = 1) (hwr : sSt σ p 1 = 1) {a t : Nat} {u : Int32} (h : zel σ nw p W a t true u) (ht : t < kn σ p) (hu : sIn W (sSt σ p 5) < u + sSt σ p 4 + sSO σ nw p t) (x : Int32) : zel σ nw p W a t false x := by
  obtain ⟨h1, h2, h3, h4, _⟩ := h
  have e := h4 rfl
  obtain ⟨s, rfl⟩ : ∃ s, t = s + 1 := ⟨t - 1, by omega⟩
  rw [show s + 1 - 1 = s from rfl] at e
  subst e
  have q := sLU_br hrow hwr hu
  refine ⟨h1, h2, h3, fun z => (by cases z), fun _ => ⟨ht, fun z => ?_⟩⟩
  have := h3 s (by omega) (by omega)
  omega
theorem zel_f {σ : zS} {nw : Nat → Int32} {p : Nat} {W : Int32} {a t : Nat} {u : Int32} (h : zel σ nw p W a t false u) : zend (sLn σ nw p W) (kn σ p) a = t := zend_eq h.1 h.2.1 h.2.2.1 (fun _ => (h.2.2.2.2 rfl).2)
theorem zel_e {σ : zS} {nw : Nat → Int32} {p : Nat} {W : Int32} {a t : Nat} {mo : Bool} {u : Int32} (h : zel σ nw p W a t mo u) (ht : kn σ p ≤ t) : zend (sLn σ nw p W) (kn σ p) a = t := zend_eq h.1 h.2.1 h.2.2.1 (fun q => absurd q (by omega))
theorem zend_nw {σ : zS} {nw : Nat → Int32} {p : Nat} {W : Int32} (hrow : ¬ sSt σ p 0 = 1) (h : ¬ sSt σ p 1 = 1) {a : Nat} (ha : a < kn σ p) : zend (sLn σ nw p W) (kn σ p) a = kn σ p := zend_eq ha (Nat.le_refl _) (fun k _ _ => by
  unfold sLn
  rw [if_neg hrow, if_neg hrow, sLU_nw h, sLU_nw h]) (fun q => absurd q (Nat.lt_irrefl _))
end ZML
