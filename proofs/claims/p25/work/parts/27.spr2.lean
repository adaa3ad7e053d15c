section ZSPR
theorem sLn_le {σ : zS} {nw : Nat → Int32} {p : Nat} {W : Int32} {i j : Nat} (h : i ≤ j) : sLn σ nw p W i ≤ sLn σ nw p W j := by
  have := zstep_mono (sLn_step σ nw p W) (i := i) (d := j - i)
  rw [show i + (j - i) = j by omega] at this
  exact this
theorem sLn_lt {σ : zS} {nw : Nat → Int32} {p : Nat} {W : Int32} {i : Nat} (h : i < kn σ p) : sLn σ nw p W i < sLCn σ nw p W := by
  unfold sLCn
  rw [if_neg (show ¬ kn σ p = 0 by omega)]
  have := sLn_le (σ := σ) (nw := nw) (p := p) (W := W) (show i ≤ kn σ p - 1 by omega)
  omega
theorem sLCn_le {σ : zS} (hw : sWF σ) (nw : Nat → Int32) (p : Nat) (W : Int32) : sLCn σ nw p W ≤ 40 := by
  unfold sLCn
  have := kn_le hw p
  split
  · omega
  · have := zstep_le (sLn_step σ nw p W) (kn σ p - 1)
    omega
theorem sPn {σ : zS} (hw : sWF σ) {p : Nat} : p ∉ sKids σ p := fun q => absurd (sKids_lt hw q).1 (Nat.lt_irrefl _)
/-- a loop over lines: the line's number against the count -/
theorem zln_end {σ : zS} (hw : sWF σ) {nw : Nat → Int32} {p : Nat} {W : Int32} {a l : Nat} (ha : a ≤ kn σ p) (hal : a < kn σ p → zbeg (sLn σ nw p W) a = a ∧ sLn σ nw p W a = l) (h : nI (sLCn σ nw p W) ≤ nI l) : a = kn σ p := by
  rcases Nat.lt_or_ge a (kn σ p) with q | q
  · have q1 := sLn_lt (σ := σ) (nw := nw) (W := W) q
    have q2 := (hal q).2
    have q3 := zstep_le (sLn_step σ nw p W) a
    have q4 := kn_le hw p
    have q6 := sLCn_le hw nw p W
    have q5 := zc_ge h (by omega) (by omega)
    omega
  · omega
theorem zln_next {σ : zS} {nw : Nat → Int32} {p : Nat} {W : Int32} {a l : Nat} (ha : a < kn σ p) (hal : a < kn σ p → zbeg (sLn σ nw p W) a = a ∧ sLn σ nw p W a = l) : zend (sLn σ nw p W) (kn σ p) a < kn σ p → zbeg (sLn σ nw p W) (zend (sLn σ nw p W) (kn σ p) a) = zend (sLn σ nw p W) (kn σ p) a ∧ sLn σ nw p W (zend (sLn σ nw p W) (kn σ p) a) = l + 1 := fun q => ⟨(zend_beg ha (hal ha).1).2 q, by rw [(zend_ln (sLn_step σ nw p W) ha).1 q, (hal ha).2]⟩
theorem zsprR_0 {σ : zS} {nw : Nat → Int32} {p : Nat} {W : Int32} {I I2 : Nat → Nat → Int32} (h1 : ∀ q j, ¬ (j = 17 ∧ q ∈ sKids σ p) → ¬ (q = p ∧ j = 16) → I2 q j = I q j) (h2 : ∀ i q, (sKids σ p)[i]? = some q → I2 q 17 = nI (sLn σ nw p W i)) (h3 : I2 p 16 = nI (sLCn σ nw p W)) : zsprR σ nw p W 0 I I2 := ⟨fun q j k1 k2 _ _ => h1 q j (fun z => k1 ⟨Or.inr z.1, z.2⟩) k2, fun i q hq => ⟨fun z => absurd z (Nat.not_lt_zero _), h2 i q hq⟩, h3⟩
theorem zsprR_end {σ : zS} {nw : Nat → Int32} {p : Nat} {W : Int32} {a : Nat} {I I2 : Nat → Nat → Int32} {P : Nat → Nat → Option Nat} {J : Nat → Nat → Int64} (h : zsprR σ nw p W a I I2) (ea : a = kn σ p) : zsprQ σ nw p W I P J none I2 P J := ⟨rfl, rfl, rfl, h.1, fun i q hq => ⟨(h.2.1 i q hq).1 (by rw [ea]; exact (List.getElem?_eq_some_iff.mp hq).1), (h.2.1 i q hq).2⟩, h.2.2⟩
theorem zsprR_s {σ : zS} {nw : Nat → Int32} {p : Nat} {W : Int32} {a : Nat} {I I1 I2 : Nat → Nat → Int32} {P P2 : Nat → Nat → Option Nat} {J J2 : Nat → Nat → Int64} {v : Option Value} (ht : zTr σ I1 P) (hn : ∀ k, k ∈ sKids σ p → I1 k 10 = nw k) (hrow : ¬ sSt σ p 0 = 1) (ha : a < kn σ p) (hal : zbeg (sLn σ nw p W) a = a) (h : zsprR σ nw p W a I I1) (hq : zflexQ true (sKids σ p) a (zend (sLn σ nw p W) (kn σ p) a) (sIn W (sSt σ p 5)) (sSt σ p 4) I1 P J v I2 P2 J2) : zsprR σ nw p W (zend (sLn σ nw p W) (kn σ p) a) I I2 := by
  obtain ⟨_, _, _, hf, hs⟩ := hq
  have hz := zend_spec (ln := sLn σ nw p W) ha
  refine ⟨fun q j k1 k2 k3 k4 => ?_, fun i q hq => ⟨fun hi => ?_, ?_⟩, ?_⟩
  · rw [hf q j k3 k4 (fun y => k1 ⟨Or.inl y.1, by obtain ⟨_, k, _, _, y2⟩ := y; exact List.mem_of_getElem? y2⟩)]
    exact h.1 q j k1 k2 k3 k4
  · have hq40 := (sKids_lt ht.1 (List.mem_of_getElem? hq)).2.1
    rcases Nat.lt_or_ge i a with q1 | q1
    · rw [hf q 14 (by omega) (by omega) (fun y => by
        obtain ⟨_, k, y1, y2, y3⟩ := y
        have := zlist_inj sKids_nd y3 hq
        omega)]
      exact (h.2.1 i q hq).1 q1
    · have e := hs i q q1 hi hq
      have e1 : zbeg (sLn σ nw p W) i = a := (zend_beg ha hal).1 i q1 hi
      unfold sKW
      rw [if_neg hrow, e1]
      exact e.trans (zflex_S ht true hn hz.2.1 _ rfl q1 hi)
  · have hq40 := (sKids_lt ht.1 (List.mem_of_getElem? hq)).2.1
    rw [hf q 17 (by omega) (by omega) (fun y => absurd y.1 (by decide))]
    exact (h.2.1 i q hq).2
  · have hp : ¬ (83 ≤ p) := by
      have := (sKids_lt ht.1 (kd_mem ha)).1
      have := (sKids_lt ht.1 (kd_mem ha)).2.1
      omega
    rw [hf p 16 (by omega) (by omega) (fun y => absurd y.1 (by decide))]
    exact h.2.2
end ZSPR
