section ZMW
/-! ranges of widths and heights -/
theorem sFx_rng {σ : zS} (hw : sWF σ) {nat : Nat → Int32} {p : Nat} {wd : Bool} {sp : Int32} {fr z k : Nat} (hb : zbd σ p nat) (hz : z ≤ kn σ p) (h1 : fr ≤ k) (h2 : k < z) : 0 ≤ (sFx σ p wd nat sp fr z k).toInt ∧ (sFx σ p wd nat sp fr z k).toInt ≤ 10000 := by
  obtain ⟨x, hx⟩ : ∃ x : Nat, x = if wd = true then 0 else 1 := ⟨_, rfl⟩
  have hx2 : x < 2 := by rw [hx]; split <;> decide
  obtain ⟨s0, hs0⟩ : ∃ s : (Nat → Int32) × (Nat → Bool), s = (fxStart (mB σ nat p fr) (mLo σ p x fr) (mHi σ p x fr), mSt σ nat p x fr z sp) := ⟨_, rfl⟩
  have q := mrng hw hx2 hb hz (fr := fr) (j := k - fr) (by omega)
  have hs : 0 ≤ (s0.1 (k - fr)).toInt ∧ (s0.1 (k - fr)).toInt ≤ 10000 := by
    rw [show s0.1 (k - fr) = zlim (mB σ nat p fr (k - fr)) (mLo σ p x fr (k - fr)) (mHi σ p x fr (k - fr)) by rw [hs0]; rfl]
    exact zlim_rng q.2.1 q.2.2.1
  have e : sFx σ p wd nat sp fr z k = (fxIt (z - fr) (mGr σ nat p x fr z sp) (mRoom σ p fr z sp) (mB σ nat p fr) (mLo σ p x fr) (mHi σ p x fr) (mFac σ nat p x fr z sp) s0 (z - fr)).1 (k - fr) := by
    rw [mFx wd h1, ← hx, hs0]
  rw [e]
  exact fxIt_rng hs q.2.1 q.2.2.1 _
theorem sLim_rng {σ : zS} (hw : sWF σ) {b : Nat} (he : sEx σ b = true) (v : Int32) : (0 ≤ (zlim v (sSt σ b 12) (sSt σ b 14)).toInt ∧ (zlim v (sSt σ b 12) (sSt σ b 14)).toInt ≤ 10000) ∧ (0 ≤ (zlim v (sSt σ b 13) (sSt σ b 15)).toInt ∧ (zlim v (sSt σ b 13) (sSt σ b 15)).toInt ≤ 10000) := by
  have q := sSt_p hw he
  exact ⟨zlim_rng q.2.2.2.2.2.1 q.2.2.2.2.2.2.2.1, zlim_rng q.2.2.2.2.2.2.1 q.2.2.2.2.2.2.2.2.1⟩
theorem sKW_rng {σ : zS} (hw : sWF σ) {nw : Nat → Int32} {p : Nat} (hb : zbd σ p nw) {W : Int32} {i : Nat} (hi : i < kn σ p) : 0 ≤ (sKW σ nw p W i).toInt ∧ (sKW σ nw p W i).toInt ≤ 10000 := by
  unfold sKW
  split
  · unfold sCoW
    exact (sLim_rng hw (sKids_lt hw (kd_mem hi)).2.2.1 _).1
  · have hbi := zbeg_le (ln := sLn σ nw p W) i
    have hz := zend_spec (ln := sLn σ nw p W) (n := kn σ p) (a := zbeg (sLn σ nw p W) i) (by omega)
    refine sFx_rng hw hb hz.2.1 hbi ?_
    refine Nat.lt_of_not_le (fun q => ?_)
    have e1 : sLn σ nw p W (zbeg (sLn σ nw p W) i) = sLn σ nw p W i := zbeg_ln i
    have m1 := sLn_le (σ := σ) (nw := nw) (p := p) (W := W) q
    have m2 := sLn_le (σ := σ) (nw := nw) (p := p) (W := W) (Nat.le_of_lt hz.1)
    exact hz.2.2.2 (by omega) (by omega)
theorem sKH_rng {σ : zS} (hw : sWF σ) {p : Nat} {H : Int32} {i : Nat} (hi : i < kn σ p) : 0 ≤ (sKH σ p H i).toInt ∧ (sKH σ p H i).toInt ≤ 10000 := by
  unfold sKH
  split
  · exact sFx_rng hw (sNH_bd hw p) (Nat.le_refl _) (Nat.zero_le _) hi
  · unfold sRoH
    exact (sLim_rng hw (sKids_lt hw (kd_mem hi)).2.2.1 _).2
theorem kd_of {σ : zS} {p b : Nat} (h : b ∈ sKids σ p) : ∃ i, i < kn σ p ∧ kd σ p i = b := by
  obtain ⟨i, hi, e⟩ := List.getElem_of_mem h
  refine ⟨i, hi, ?_⟩
  unfold kd
  rw [List.getD_eq_getElem?_getD, List.getElem?_eq_getElem hi, e]
  rfl
theorem sWv_rng {σ : zS} (hw : sWF σ) {v : Int32} (hv : 0 ≤ v.toInt ∧ v.toInt ≤ 2000) {b : Nat} (hs : sSh σ b = true) : 0 ≤ (sWv σ v b).toInt ∧ (sWv σ v b).toInt ≤ 10000 := by
  by_cases h0 : b = 0
  · rw [h0, sWv_0]
    omega
  · obtain ⟨hk, _⟩ := sSh_kid hw hs h0
    obtain ⟨i, hi, e⟩ := kd_of hk
    rw [← e, sWv_kd hw v hi]
    exact sKW_rng hw (sNW_bd hw _) hi
theorem sVw_rng {σ : zS} (hw : sWF σ) : (0 ≤ (sVw σ).toInt ∧ (sVw σ).toInt ≤ 2000) ∧ (0 ≤ (sVh σ).toInt ∧ (sVh σ).toInt ≤ 2000) := by
  obtain ⟨_, _, _, _, _, _, ⟨h1, h2⟩, h3, h4⟩ := hw
  rw [zi_le] at h1 h2 h3 h4
  exact ⟨⟨h1, h2⟩, h3, h4⟩
theorem sWD_rng {σ : zS} (hw : sWF σ) {b : Nat} (hs : sSh σ b = true) : 0 ≤ (sWD σ b).toInt ∧ (sWD σ b).toInt ≤ 10000 := by
  rw [sWv_D]
  exact sWv_rng hw (sVw_rng hw).1 hs
theorem sHT_rng {σ : zS} (hw : sWF σ) {b : Nat} (hs : sSh σ b = true) : 0 ≤ (sHT σ b).toInt ∧ (sHT σ b).toInt ≤ 10000 := by
  by_cases h0 : b = 0
  · rw [h0, sHT_0]
    have := (sVw_rng hw).2
    omega
  · obtain ⟨hk, _⟩ := sSh_kid hw hs h0
    obtain ⟨i, hi, e⟩ := kd_of hk
    rw [← e, sHT_kd hw hi]
    exact sKH_rng hw hi
theorem sIn_rng {σ : zS} (hw : sWF σ) {b : Nat} (he : sEx σ b = true) {W : Int32} (h : 0 ≤ W.toInt ∧ W.toInt ≤ 10000) : 0 ≤ (sIn W (sSt σ b 5)).toInt ∧ (sIn W (sSt σ b 5)).toInt ≤ 10000 := by
  have q := (sSt_p hw he).2.2.2.2.1
  have e2 : (2 * sSt σ b 5).toInt = 2 * (sSt σ b 5).toInt := by
    rw [Int32.toInt_mul]
    have e : (2 : Int32).toInt = 2 := rfl
    rw [e]
    apply Int.bmod_eq_of_le <;> omega
  have e3 : (W - 2 * sSt σ b 5).toInt = W.toInt - 2 * (sSt σ b 5).toInt := by
    rw [Int32.toInt_sub, e2]
    apply Int.bmod_eq_of_le <;> omega
  unfold sIn zpos
  have z0 : (0 : Int32).toInt = 0 := rfl
  split
  · omega
  · rename_i hn
    rw [zi_lt, e3] at hn
    omega
/-! findLines -/
end ZMW
