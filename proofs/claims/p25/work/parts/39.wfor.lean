section ZWF
/-- the widths when the root is v wide -/
def sWv (σ : zS) (v : Int32) (b : Nat) : Int32 := zdn σ v (fun b r => sKW σ (sNW σ) (sPa σ b) r (sIx σ b)) 41 b
theorem sWv_D (σ : zS) (b : Nat) : sWD σ b = sWv σ (sVw σ) b := sWDf_dn σ 41 b
theorem sWv_0 (σ : zS) (v : Int32) : sWv σ v 0 = v := rfl
theorem sWv_kd {σ : zS} (hw : sWF σ) (v : Int32) {p i : Nat} (hi : i < kn σ p) : sWv σ v (kd σ p i) = sKW σ (sNW σ) p (sWv σ v p) i := by
  have h := sKids_lt hw (kd_mem hi)
  have e := sIx_kd hw hi
  unfold sWv
  rw [zdn_fix hw _ _ h.2.2.1 h.2.1 h.2.2.2.2, e.1, e.2]
def zfind (q : Nat → Bool) : Nat → Nat → Int32
  | 0, _ => -1
  | f + 1, v => if q v = true then nI v else zfind q f (v + 1)
theorem zfind_n {q : Nat → Bool} (h : ∀ v, q v = false) : ∀ f v, zfind q f v = -1
  | 0, _ => rfl
  | f + 1, v => by
    show (if q v = true then nI v else zfind q f (v + 1)) = -1
    rw [if_neg (by rw [h]; decide)]
    exact zfind_n h f (v + 1)
def sWf (σ : zS) (b : Nat) (n : Int32) : Int32 := zfind (fun v => decide (sLC σ (sNW σ) b (sWv σ (nI v) b) ≤ n)) 2001 0
def sVary (σ : zS) (b : Nat) : Bool := if sCon σ b = true then decide (¬ sSt σ b 0 = 1 ∧ sSt σ b 1 = 1 ∧ 1 < kn σ b) else decide (0 < sSt σ b 19)
theorem ztdiv8 {x : Int} (h1 : -2147483648 ≤ x) (h2 : x ≤ 2147483647) : -268435456 ≤ x.tdiv 8 ∧ x.tdiv 8 ≤ 268435455 := by
  by_cases h : 0 ≤ x
  · rw [Int.tdiv_eq_ediv_of_nonneg h]; omega
  · have e : x = -(-x) := by omega
    rw [e, Int.neg_tdiv, Int.tdiv_eq_ediv_of_nonneg (by omega)]
    omega
theorem zfit_rng (w : Int32) : 1 ≤ (zfit w).toInt ∧ (zfit w).toInt ≤ 268435456 := by
  unfold zfit
  have e1 : (1 : Int32).toInt = 1 := rfl
  split
  · rw [e1]; omega
  · rename_i h
    have h1 : ¬ (w / 8).toInt < 1 := fun q => h ((zi_lt _ _).mpr (by rw [e1]; exact q))
    have h9 := ztdiv8 (x := w.toInt) (by have := Int32.le_toInt w; omega) (by have := Int32.toInt_lt w; omega)
    have h2 : (w / 8).toInt = w.toInt.tdiv 8 := by
      rw [Int32.toInt_div]
      have e8 : (8 : Int32).toInt = 8 := rfl
      rw [e8]
      apply Int.bmod_eq_of_le
      · omega
      · omega
    rw [h2] at h1 ⊢
    omega
theorem ztl_int {t w : Int32} (h0 : 0 ≤ t.toInt) (h1 : t.toInt ≤ 500) : (ztl t w).toInt = (t.toInt + (zfit w).toInt - 1).tdiv (zfit w).toInt := by
  have hf := zfit_rng w
  have e1 : (1 : Int32).toInt = 1 := rfl
  have h2 : (t + zfit w).toInt = t.toInt + (zfit w).toInt := by
    rw [Int32.toInt_add]
    apply Int.bmod_eq_of_le <;> omega
  have h3 : (t + zfit w - 1).toInt = t.toInt + (zfit w).toInt - 1 := by
    rw [Int32.toInt_sub, h2, e1]
    apply Int.bmod_eq_of_le <;> omega
  unfold ztl
  rw [Int32.toInt_div, h3]
  have q0 : 0 ≤ t.toInt + (zfit w).toInt - 1 := by omega
  have q1 := Int.tdiv_nonneg q0 (show 0 ≤ (zfit w).toInt by omega)
  have q2 : (t.toInt + (zfit w).toInt - 1).tdiv (zfit w).toInt ≤ t.toInt + (zfit w).toInt - 1 := by
    rw [Int.tdiv_eq_ediv_of_nonneg q0]
    exact Int.ediv_le_self _ q0
  apply Int.bmod_eq_of_le <;> omega
theorem ztl_0 {t w : Int32} (h : t.toInt = 0) : ztl t w = 0 := by
  have hf := zfit_rng w
  rw [zi_eq, ztl_int (by omega) (by omega), h]
  have e0 : (0 : Int32).toInt = 0 := rfl
  rw [e0, Int.zero_add, Int.tdiv_eq_ediv_of_nonneg (by omega)]
  exact Int.ediv_eq_zero_of_lt (by omega) (by omega)
theorem ztl_1 {t w : Int32} (h0 : 1 ≤ t.toInt) (h1 : t.toInt ≤ 500) : 1 ≤ (ztl t w).toInt := by
  have hf := zfit_rng w
  rw [ztl_int (by omega) h1, Int.tdiv_eq_ediv_of_nonneg (by omega)]
  exact (Int.le_ediv_iff_mul_le (by omega)).mpr (by omega)
theorem sLU_nw {σ : zS} {nw : Nat → Int32} {p : Nat} {W : Int32} (h : ¬ sSt σ p 1 = 1) : ∀ i, (sLU σ nw p W i).1 = 0
  | 0 => rfl
  | i + 1 => by
    have e : sLU σ nw p W (i + 1) = ((sLU σ nw p W i).1, (sLU σ nw p W i).2 + sSt σ p 4 + sSO σ nw p (i + 1)) := if_neg (fun q => h q.1)
    rw [e]
    exact sLU_nw h i
theorem sLC_const {σ : zS} (hw : sWF σ) {b : Nat} (he : sEx σ b = true) (hv : sVary σ b = false) (nw : Nat → Int32) (W W' : Int32) : sLC σ nw b W = sLC σ nw b W' := by
  unfold sVary at hv
  unfold sLC
  by_cases hc : sCon σ b = true
  · rw [if_pos hc] at hv
    rw [if_pos hc, if_pos hc]
    have hv := of_decide_eq_false hv
    by_cases h0 : sSt σ b 0 = 1
    · rw [sLCn_col h0, sLCn_col h0]
    · congr 1
      unfold sLCn sLn
      rw [if_neg h0, if_neg h0]
      by_cases hk : kn σ b = 0
      · rw [if_pos hk, if_pos hk]
      · rw [if_neg hk, if_neg hk]
        by_cases h1 : sSt σ b 1 = 1
        · have : kn σ b = 1 := by
            rcases Nat.lt_or_ge 1 (kn σ b) with q | q
            · exact absurd ⟨h0, h1, q⟩ hv
            · omega
          rw [this]
          rfl
        · rw [sLU_nw h1, sLU_nw h1]
  · rw [if_neg hc] at hv
    rw [if_neg hc, if_neg hc]
    have hv := of_decide_eq_false hv
    have h19 := (sSt_p hw he).2.2.2.2.2.2.2.2.2
    have : (sSt σ b 19).toInt = 0 := by
      have e0 : (0 : Int32).toInt = 0 := rfl
      have : ¬ (0 : Int32).toInt < (sSt σ b 19).toInt := fun q => hv ((zi_lt _ _).mpr q)
      omega
    rw [ztl_0 this, ztl_0 this]
theorem sLC_one {σ : zS} (hw : sWF σ) {b : Nat} (he : sEx σ b = true) (hv : sVary σ b = true) (nw : Nat → Int32) (W : Int32) : 1 ≤ (sLC σ nw b W).toInt := by
  unfold sVary at hv
  unfold sLC
  by_cases hc : sCon σ b = true
  · rw [if_pos hc] at hv
    rw [if_pos hc]
    have hv := of_decide_eq_true hv
    have h1 := sLn_lt (σ := σ) (nw := nw) (p := b) (W := W) (i := 0) (by omega)
    have h2 := sLCn_le hw nw b W
    rw [nI_toInt (by omega)]
    omega
  · rw [if_neg hc] at hv
    rw [if_neg hc]
    have hv := (zi_lt _ _).mp (of_decide_eq_true hv)
    have h19 := (sSt_p hw he).2.2.2.2.2.2.2.2.2
    have e0 : (0 : Int32).toInt = 0 := rfl
    exact ztl_1 (by omega) h19.2
theorem sWf_c {σ : zS} (hw : sWF σ) {b : Nat} (he : sEx σ b = true) (hv : sVary σ b = false) (n : Int32) : sWf σ b n = if sLC σ (sNW σ) b (sWD σ b) ≤ n then 0 else -1 := by
  unfold sWf
  by_cases h : sLC σ (sNW σ) b (sWD σ b) ≤ n
  · rw [if_pos h]
    exact if_pos (decide_eq_true (by rw [sLC_const hw he hv _ _ (sWD σ b)]; exact h))
  · rw [if_neg h]
    exact zfind_n (fun v => decide_eq_false (by rw [sLC_const hw he hv _ _ (sWD σ b)]; exact h)) _ _
theorem sWf_n {σ : zS} (hw : sWF σ) {b : Nat} (he : sEx σ b = true) (hv : sVary σ b = true) {n : Int32} (hn : n < 1) : sWf σ b n = -1 := by
  unfold sWf
  refine zfind_n (fun v => decide_eq_false (fun q => ?_)) _ _
  have h1 := sLC_one hw he hv (sNW σ) (sWv σ (nI v) b)
  have h2 := (zi_le _ _).mp q
  have h3 := (zi_lt _ _).mp hn
  have e1 : (1 : Int32).toInt = 1 := rfl
  omega
/-- the way from a box up to the root -/
def zpath (σ : zS) (b D : Nat) (u : Nat → Nat) : Prop := u 0 = b ∧ u D = 0 ∧ ∀ j, j ≤ D → sSh σ (u j) = true ∧ (j < D → u j ≠ 0 ∧ u (j + 1) = sPa σ (u j))
theorem zpath_ex {σ : zS} (hw : sWF σ) : ∀ (n b : Nat), b < n → sSh σ b = true → ∃ D u, zpath σ b D u
  | 0, _, h, _ => absurd h (Nat.not_lt_zero _)
  | n + 1, b, h, hs => by
    by_cases h0 : b = 0
    · refine ⟨0, fun _ => 0, h0.symm, rfl, fun j hj => ⟨by rw [← h0]; exact hs, fun q => absurd q (by omega)⟩⟩
    · have q := sKid_at hw hs h0
      obtain ⟨D, u, u0, uD, hu⟩ := zpath_ex hw n (sPa σ b) (by omega) q.2.2
      refine ⟨D + 1, fun j => match j with | 0 => b | j + 1 => u j, rfl, uD, fun j hj => ?_⟩
      cases j with
      | zero => exact ⟨hs, fun _ => ⟨h0, u0⟩⟩
      | succ j => exact ⟨(hu j (by omega)).1, fun k => (hu j (by omega)).2 (by omega)⟩
theorem zpath_lt {σ : zS} (hw : sWF σ) {b D : Nat} {u : Nat → Nat} (h : zpath σ b D u) {i : Nat} : ∀ {d : Nat}, i + (d + 1) ≤ D → u (i + (d + 1)) < u i
  | 0, hd => by
    have q := h.2.2 i (by omega)
    have e := q.2 (by omega)
    show u (i + 1) < u i
    rw [e.2]
    exact (sKid_at hw q.1 e.1).2.1
  | d + 1, hd => by
    have h1 := zpath_lt hw h (i := i) (d := d) (by omega)
    have q := h.2.2 (i + (d + 1)) (by omega)
    have e := q.2 (by omega)
    show u (i + (d + 1) + 1) < u i
    rw [e.2]
    have := (sKid_at hw q.1 e.1).2.1
    omega
theorem zpath_ne {σ : zS} (hw : sWF σ) {b D : Nat} {u : Nat → Nat} (h : zpath σ b D u) {i j : Nat} (hij : i < j) (hj : j ≤ D) : u i ≠ u j := fun e => by
  have := zpath_lt hw h (i := i) (d := j - i - 1) (by omega)
  rw [show i + (j - i - 1 + 1) = j by omega] at this
  omega
theorem zpath_kid {σ : zS} (hw : sWF σ) {b D : Nat} {u : Nat → Nat} (h : zpath σ b D u) {j : Nat} (hj : j < D) : (sKids σ (u (j + 1)))[sIx σ (u j)]? = some (u j) := by
  have q := h.2.2 j (by omega)
  have e := q.2 hj
  rw [e.2]
  exact (sKid_at hw q.1 e.1).1
/-- heirs that are set on the last k steps of the way -/
def zheir (u : Nat → Nat) (k : Nat) (P P' : Nat → Nat → Option Nat) : Prop := (∀ q j, ¬ (j = 9 ∧ q < 40) → P' q j = P q j) ∧ ∀ j, j < k → P' (u (j + 1)) 9 = some (u j)
theorem zheir_s {σ : zS} (hw : sWF σ) {b D : Nat} {u : Nat → Nat} (h : zpath σ b D u) {k : Nat} (hk : k < D) {P P' : Nat → Nat → Option Nat} (hh : zheir u k P P') : zheir u (k + 1) P (z_u P' (u (k + 1)) 9 (some (u k))) := by
  refine ⟨fun q j hq => ?_, fun j hj => ?_⟩
  · rw [z_u_r2 _ (fun z => hq ⟨z.2, by rw [z.1]; exact (sSh_ex hw (h.2.2 (k + 1) (by omega)).1).1⟩)]
    exact hh.1 q j hq
  · by_cases e : j = k
    · rw [e, z_u_s]
    · rw [z_u_a _ _ (zpath_ne hw h (show j + 1 < k + 1 by omega) (by omega))]
      exact hh.2 j (by omega)
theorem zTr_P {σ : zS} {I : Nat → Nat → Int32} {P P' : Nat → Nat → Option Nat} (h : zTr σ I P) (hp : ∀ q j, ¬ (j = 9 ∧ q < 40) → P' q j = P q j) : zTr σ I P' := by
  obtain ⟨h1, h2, h3, h4, h5, h6, h7, h8, h9, h10⟩ := h
  refine ⟨h1, h2, h3, fun b he h0 => ?_, ?_, fun b a hb ha => ?_, h7, h8, h9, h10⟩
  · rw [hp b 3 (by omega)]; exact h4 b he h0
  · rw [hp 0 3 (by omega)]; exact h5
  · rw [hp b 3 (by omega)] at ha; exact h6 b a hb ha
theorem zchain_P {P P' : Nat → Nat → Option Nat} (hp : ∀ q, P' q 7 = P q 7) {l : List Nat} {o : Option Nat} (h : zchain P o l) : zchain P' o l := zchain_congr (fun x _ => hp x) h
theorem zLk_P {σ : zS} {I : Nat → Nat → Int32} {P P' : Nat → Nat → Option Nat} (h : zLk σ I P) (hp : ∀ q j, ¬ (j = 9 ∧ q < 40) → P' q j = P q j) : zLk σ I P' := by
  refine ⟨fun p hq => ?_, ?_⟩
  · obtain ⟨h1, h2, h3, h4⟩ := h.1 p hq
    refine ⟨h1, h2, h3, ?_⟩
    rw [hp p 6 (by omega)]
    exact zchain_P (fun q => hp q 7 (by omega)) h4
  · rw [hp 0 7 (by omega)]; exact h.2
end ZWF
