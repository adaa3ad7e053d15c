section ZMW
/-! ranges of widths and heights -/
theorem sFx_rng {σ : zS} (hw : sWF σ) {nat : Nat → Int32} {p : Nat} {wd : Bool} {sp : Int32} {fr z k : Nat} (hb : zbd σ p nat) (hz : z ≤ kn σ p) (h1 : fr ≤ k) (h2 : k < z) : 0 ≤ (sFx σ p wd nat sp fr z k).toInt ∧ (sFx σ p wd nat sp fr z k).toInt ≤ 10000 := by
  obtain ⟨x, hx⟩ : ∃ x : Nat, x = if wd = true then 0 else 1 := ⟨_, rfl⟩
  have hx2 : x < 2 := by rw [hx]; split <;> decide
  obtain ⟨s0, hs0⟩ : ∃ s : (Nat → Int32) × (Nat → Bool), s = (fxStart (mB σ nat p fr) (mLo σ p x fr) (mHi σ p x fr), mSt σ nat p x fr z sp) := ⟨_, rfl⟩
  have q := mrng hw hx2 hb hz (fr := fr) (j := k - fr) (by omega)
  have hs : 0 ≤ (s0.1 (k - fr)).toInt ∧ (s0.1 (k - fr)).toInt ≤ 10000 := by
    rw [show s0.1 (k - fr) = zlim (mB σ nat p fr (k - fr)) (mLo σ p x fr (k - fr)) (mHi σ p x fr (k - fr)) by rw [hs0]; rfl]
    exact zlim_rng q.2.1 q.2.2.1
  have e : sFx σ p wd nat sp fr z k = (fxIt (z - fr) (mGr σ nat p x fr z sp) (mRoom σ p fr z sp) (mB σ nat p fr) (mLo σ p x fr) (mHi σ p x fr) (mFac σ nat p x fr z sp) s0 (z - fr)).1 (k - fr) := by
    rw [mFx wd h1, ← hx, hs0]
  rw [e]
  exact fxIt_rng hs q.2.1 q.2.2.1 _
theorem sLim_rng {σ : zS} (hw : sWF σ) {b : Nat} (he : sEx σ b = true) (v : Int32) : (0 ≤ (zlim v (sSt σ b 12) (sSt σ b 14)).toInt ∧ (zlim v (sSt σ b 12) (sSt σ b 14)).toInt ≤ 10000) ∧ (0 ≤ (zlim v (sSt σ b 13) (sSt σ b 15)).toInt ∧ (zlim v (sSt σ b 13) (sSt σ b 15)).toInt ≤ 10000) := by
  have q := sSt_p hw he
  exact ⟨zlim_rng q.2.2.2.2.2.1 q.2.2.2.2.2.2.2.1, zlim_rng q.2.2.2.2.2.2.1 q.2.2.2.2.2.2.2.2.1⟩
theorem sKW_rng {σ : zS} (hw : sWF σ) {nw : Nat → Int32} {p : Nat} (hb : zbd σ p nw) {W : Int32} {i : Nat} (hi : i < kn σ p) : 0 ≤ (sKW σ nw p W i).toInt ∧ (sKW σ nw p W i).toInt ≤ 10000 := by
  unfold sKW
  split
  · unfold sCoW
    exact (sLim_rng hw (sKids_lt hw (kd_mem hi)).2.2.1 _).1
  · have hbi := zbeg_le (ln := sLn σ nw p W) i
    have hz := zend_spec (ln := sLn σ nw p W) (n := kn σ p) (a := zbeg (sLn σ nw p W) i) (by omega)
    refine sFx_rng hw hb hz.2.1 hbi ?_
    refine Nat.lt_of_not_le (fun q => ?_)
    have e1 : sLn σ nw p W (zbeg (sLn σ nw p W) i) = sLn σ nw p W i := zbeg_ln i
    have m1 := sLn_le (σ := σ) (nw := nw) (p := p) (W := W) q
    have m2 := sLn_le (σ := σ) (nw := nw) (p := p) (W := W) (Nat.le_of_lt hz.1)
    exact hz.2.2.2 (by omega) (by omega)
theorem sKH_rng {σ : zS} (hw : sWF σ) {p : Nat} {H : Int32} {i : Nat} (hi : i < kn σ p) : 0 ≤ (sKH σ p H i).toInt ∧ (sKH σ p H i).toInt ≤ 10000 := by
  unfold sKH
  split
  · exact sFx_rng hw (sNH_bd hw p) (Nat.le_refl _) (Nat.zero_le _) hi
  · unfold sRoH
    exact (sLim_rng hw (sKids_lt hw (kd_mem hi)).2.2.1 _).2
theorem kd_of {σ : zS} {p b : Nat} (h : b ∈ sKids σ p) : ∃ i, i < kn σ p ∧ kd σ p i = b := by
  obtain ⟨i, hi, e⟩ := List.getElem_of_mem h
  refine ⟨i, hi, ?_⟩
  unfold kd
  rw [List.getD_eq_getElem?_getD, List.getElem?_eq_getElem hi, e]
  rfl
theorem sWv_rng {σ : zS} (hw : sWF σ) {v : Int32} (hv : 0 ≤ v.toInt ∧ v.toInt ≤ 2000) {b : Nat} (hs : sSh σ b = true) : 0 ≤ (sWv σ v b).toInt ∧ (sWv σ v b).toInt ≤ 10000 := by
  by_cases h0 : b = 0
  · rw [h0, sWv_0]
    omega
  · obtain ⟨hk, _⟩ := sSh_kid hw hs h0
    obtain ⟨i, hi, e⟩ := kd_of hk
    rw [← e, sWv_kd hw v hi]
    exact sKW_rng hw (sNW_bd hw _) hi
theorem sVw_rng {σ : zS} (hw : sWF σ) : (0 ≤ (sVw σ).toInt ∧ (sVw σ).toInt ≤ 2000) ∧ (0 ≤ (sVh σ).toInt ∧ (sVh σ).toInt ≤ 2000) := by
  obtain ⟨_, _, _, _, _, _, ⟨h1, h2⟩, h3, h4⟩ := hw
  rw [zi_le] at h1 h2 h3 h4
  exact ⟨⟨h1, h2⟩, h3, h4⟩
theorem sWD_rng {σ : zS} (hw : sWF σ) {b : Nat} (hs : sSh σ b = true) : 0 ≤ (sWD σ b).toInt ∧ (sWD σ b).toInt ≤ 10000 := by
  rw [sWv_D]
  exact sWv_rng hw (sVw_rng hw).1 hs
theorem sHT_rng {σ : zS} (hw : sWF σ) {b : Nat} (hs : sSh σ b = true) : 0 ≤ (sHT σ b).toInt ∧ (sHT σ b).toInt ≤ 10000 := by
  by_cases h0 : b = 0
  · rw [h0, sHT_0]
    have := (sVw_rng hw).2
    omega
  · obtain ⟨hk, _⟩ := sSh_kid hw hs h0
    obtain ⟨i, hi, e⟩ := kd_of hk
    rw [← e, sHT_kd hw hi]
    exact sKH_rng hw hi
theorem sIn_rng {σ : zS} (hw : sWF σ) {b : Nat} (he : sEx σ b = true) {W : Int32} (h : 0 ≤ W.toInt ∧ W.toInt ≤ 10000) : 0 ≤ (sIn W (sSt σ b 5)).toInt ∧ (sIn W (sSt σ b 5)).toInt ≤ 10000 := by
  have q := (sSt_p hw he).2.2.2.2.1
  have e2 : (2 * sSt σ b 5).toInt = 2 * (sSt σ b 5).toInt := by
    rw [Int32.toInt_mul]
    have e : (2 : Int32).toInt = 2 := rfl
    rw [e]
    apply Int.bmod_eq_of_le <;> omega
  have e3 : (W - 2 * sSt σ b 5).toInt = W.toInt - 2 * (sSt σ b 5).toInt := by
    rw [Int32.toInt_sub, e2]
    apply Int.bmod_eq_of_le <;> omega
  unfold sIn zpos
  have z0 : (0 : Int32).toInt = 0 := rfl
  split
  · omega
  · rename_i hn
    rw [zi_lt, e3] at hn
    omega
/-! findLines -/
def zfq (σ : zS) (nw : Nat → Int32) (p : Nat) (W : Int32) (a l : Nat) (I : Nat → Nat → Int32) (J : Nat → Nat → Int64) (Ir : Nat → Nat → Int32) (Jr : Nat → Nat → Int64) : Prop := (∀ q j, q ≠ 106 → q ≠ 108 → ¬ (q = 102 ∧ ∃ c, c ∈ sKids σ p ∧ j = 2 * c) → ¬ (q = 104 ∧ j ∈ sKids σ p) → Ir q j = I q j) ∧ (∀ q j, q ≠ 107 → Jr q j = J q j) ∧ (∀ i, i < a → Ir 102 (2 * kd σ p i) = sKW σ nw p W i ∧ Ir 104 (kd σ p i) = nI (sLn σ nw p W i)) ∧ a ≤ kn σ p ∧ (a < kn σ p → zbeg (sLn σ nw p W) a = a ∧ sLn σ nw p W a = l) ∧ (a = kn σ p → l = sLCn σ nw p W)
theorem zfq_0 {σ : zS} {nw : Nat → Int32} {p : Nat} {W : Int32} {I : Nat → Nat → Int32} {J : Nat → Nat → Int64} : zfq σ nw p W 0 0 I J I J := ⟨fun _ _ _ _ _ _ => rfl, fun _ _ _ => rfl, fun i hi => absurd hi (Nat.not_lt_zero _), Nat.zero_le _, fun _ => ⟨rfl, (sLn_step σ nw p W).1⟩, fun h => by unfold sLCn; rw [if_pos h.symm]⟩
/-- the numbers of a line's boxes -/
def zsl (σ : zS) (p l a k : Nat) (Ir Ii : Nat → Nat → Int32) : Prop := (∀ q j, ¬ (q = 104 ∧ ∃ i, a ≤ i ∧ i < k ∧ j = kd σ p i) → Ii q j = Ir q j) ∧ ∀ i, a ≤ i → i < k → Ii 104 (kd σ p i) = nI l
theorem zsl_0 {σ : zS} {p l a : Nat} {Ir : Nat → Nat → Int32} : zsl σ p l a a Ir Ir := ⟨fun _ _ _ => rfl, fun i h1 h2 => absurd h2 (by omega)⟩
theorem zsl_s {σ : zS} {p l a k : Nat} (hak : a ≤ k) (hk : k < kn σ p) {Ir Ii : Nat → Nat → Int32} (h : zsl σ p l a k Ir Ii) : zsl σ p l a (k + 1) Ir (z_u Ii 104 (kd σ p k) (nI l)) := by
  refine ⟨fun q j hq => ?_, fun i h1 h2 => ?_⟩
  · rw [z_u_r2 _ (fun y => hq ⟨y.1, k, hak, by omega, y.2⟩)]
    exact h.1 q j (fun y => hq ⟨y.1, by obtain ⟨_, i, y1, y2, y3⟩ := y; exact ⟨i, y1, by omega, y3⟩⟩)
  · by_cases e : i = k
    · rw [e, z_u_s]
    · have ne : kd σ p i ≠ kd σ p k := fun y => e (kd_inj (by omega) hk y)
      rw [z_u_b _ _ ne]
      exact h.2 i h1 (by omega)
theorem zfq_s {σ : zS} {nw : Nat → Int32} {p : Nat} {W : Int32} {a l : Nat} {I : Nat → Nat → Int32} {J : Nat → Nat → Int64} {Ir Ii I3 : Nat → Nat → Int32} {Jr J3 : Nat → Nat → Int64} {P P3 : Nat → Nat → Option Nat} {v : Option Value} (hrow : ¬ sSt σ p 0 = 1) (ha : a < kn σ p) (h : zfq σ nw p W a l I J Ir Jr) (h2 : zsl σ p l a (zend (sLn σ nw p W) (kn σ p) a) Ir Ii) (h3 : zflQ σ nw p true 0 a (zend (sLn σ nw p W) (kn σ p) a) (sIn W (sSt σ p 5)) Ii P Jr v I3 P3 J3) : zfq σ nw p W (zend (sLn σ nw p W) (kn σ p) a) (l + 1) I J I3 J3 := by
  obtain ⟨f1, f2, f3, f4, f5, f6⟩ := h
  obtain ⟨g1, g2⟩ := h2
  obtain ⟨_, _, q3, q4, q5⟩ := h3
  have hz := zend_spec (ln := sLn σ nw p W) ha
  have hbeg := zend_beg ha (f5 ha).1
  have hst := zend_ln (sLn_step σ nw p W) ha
  have hl := (f5 ha).2
  generalize ht : zend (sLn σ nw p W) (kn σ p) a = t at *
  refine ⟨fun q j k1 k2 k3 k4 => ?_, fun q j hq => (q3 q j hq).trans (f2 q j hq), fun i hi => ?_, hz.2.1, fun q => ⟨hbeg.2 q, by rw [hst.1 q, hl]⟩, fun q => ?_⟩
  · rw [q4 q j k1 k2 (fun y => k3 ⟨y.1, by obtain ⟨_, i, y1, y2, y3⟩ := y; exact ⟨kd σ p i, kd_mem (by omega), y3⟩⟩), g1 q j (fun y => k4 ⟨y.1, by obtain ⟨_, i, y1, y2, y3⟩ := y; rw [y3]; exact kd_mem (by omega)⟩)]
    exact f1 q j k1 k2 k3 k4
  · by_cases hia : i < a
    · have n1 : ∀ i', a ≤ i' → i' < t → kd σ p i ≠ kd σ p i' := fun i' h1 h2 y => by
        have := kd_inj (σ := σ) (p := p) (i := i) (j := i') (by omega) (by omega) y
        omega
      rw [q4 102 _ (by decide) (by decide) (fun y => by obtain ⟨_, i', y1, y2, y3⟩ := y; exact n1 i' y1 y2 (by omega)), g1 102 _ (fun y => absurd y.1 (by decide)), q4 104 _ (by decide) (by decide) (fun y => absurd y.1 (by decide)), g1 104 _ (fun y => by obtain ⟨_, i', y1, y2, y3⟩ := y; exact n1 i' y1 y2 y3)]
      exact f3 i hia
    · have e1 := q5 i (by omega) hi
      have e2 := g2 i (by omega) hi
      refine ⟨?_, ?_⟩
      · rw [show 2 * kd σ p i = 2 * kd σ p i + 0 from rfl, e1]
        unfold sKW
        rw [if_neg hrow, hbeg.1 i (by omega) hi, ht]
      · rw [q4 104 _ (by decide) (by decide) (fun y => absurd y.1 (by decide)), e2, hz.2.2.1 i (by omega) hi, hl]
  · unfold sLCn
    rw [if_neg (by omega), hst.2 q, hl]
/-- what a container's widths leave -/
def zwk (σ : zS) (nw : Nat → Int32) (p : Nat) (W : Int32) (I : Nat → Nat → Int32) (J : Nat → Nat → Int64) (I' : Nat → Nat → Int32) (J' : Nat → Nat → Int64) : Prop := (∀ q j, q ≠ 106 → q ≠ 108 → ¬ (q = 102 ∧ ∃ c, c ∈ sKids σ p ∧ j = 2 * c) → ¬ (q = 104 ∧ j ∈ sKids σ p) → ¬ (q = 105 ∧ j = p) → I' q j = I q j) ∧ (∀ q j, q ≠ 107 → J' q j = J q j) ∧ (∀ i, i < kn σ p → I' 102 (2 * kd σ p i) = sKW σ nw p W i ∧ I' 104 (kd σ p i) = nI (sLn σ nw p W i)) ∧ I' 105 p = nI (sLCn σ nw p W)
theorem zwk_row {σ : zS} {nw : Nat → Int32} {p : Nat} {W : Int32} {a l : Nat} {I : Nat → Nat → Int32} {J : Nat → Nat → Int64} {Ir : Nat → Nat → Int32} {Jr : Nat → Nat → Int64} (h : zfq σ nw p W a l I J Ir Jr) (ha : kn σ p ≤ a) : zwk σ nw p W I J (z_u Ir 105 p (nI l)) Jr := by
  obtain ⟨f1, f2, f3, f4, f5, f6⟩ := h
  have e : a = kn σ p := by omega
  refine ⟨fun q j k1 k2 k3 k4 k5 => (z_u_r2 _ k5).trans (f1 q j k1 k2 k3 k4), f2, fun i hi => ?_, by rw [z_u_s, f6 e]⟩
  rw [z_u_a _ _ (by decide), z_u_a _ _ (by decide)]
  exact f3 i (by omega)
theorem zwk_col {σ : zS} {nw : Nat → Int32} {p : Nat} {W : Int32} {I : Nat → Nat → Int32} {J : Nat → Nat → Int64} {I' : Nat → Nat → Int32} {J' : Nat → Nat → Int64} {P P' : Nat → Nat → Option Nat} {v : Option Value} (h : zfwQ σ nw p W I P J v I' P' J') : zwk σ nw p W I J I' J' := by
  obtain ⟨_, _, hJ, Ir, hz, e⟩ := h
  subst hJ
  subst e
  refine ⟨fun q j k1 k2 k3 k4 k5 => (z_u_r2 _ k5).trans (hz.1 q j k3 k4), fun _ _ _ => rfl, fun i hi => ?_, z_u_s _ _ _ _⟩
  rw [z_u_a _ _ (by decide), z_u_a _ _ (by decide)]
  exact hz.2 i hi
end ZMW
