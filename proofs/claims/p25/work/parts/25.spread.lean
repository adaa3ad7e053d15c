section ZSPD
theorem zsetv.own {σ : zS} (hw : sWF σ) {fl : List Nat} {p a i : Nat} {v : Nat → Nat → Int32} {I I' : Nat → Nat → Int32} (h : zsetv fl (sKids σ p) a i v I I') (j : Nat) : I' p j = I p j := h.1 p j (fun z => by
  obtain ⟨_, k, _, _, z2⟩ := z
  exact absurd (sKids_lt hw (List.mem_of_getElem? z2)).1 (Nat.lt_irrefl _))
theorem zsetv.oth {fl : List Nat} {L : List Nat} {a i : Nat} {v : Nat → Nat → Int32} {I I' : Nat → Nat → Int32} (h : zsetv fl L a i v I I') {q j : Nat} (hj : j ∉ fl) : I' q j = I q j := h.1 q j (fun z => hj z.1)
theorem zcol_w {σ : zS} {nw : Nat → Int32} {p i k : Nat} {W x : Int32} (hcol : sSt σ p 0 = 1) (hkd : kd σ p i = k) (h0 : k ≠ 0) (hx : x = if sSt σ k 10 = -1 then (if sAl σ k = 3 then zpos (sIn W (sSt σ p 5) - 2 * sSt σ k 6) else (if nw k < zpos (sIn W (sSt σ p 5) - 2 * sSt σ k 6) then nw k else zpos (sIn W (sSt σ p 5) - 2 * sSt σ k 6))) else sSt σ k 10) : sLimW σ k x = sKW σ nw p W i := by
  subst hx
  unfold sKW sCoW sLimW
  rw [if_pos hcol, hkd, if_neg h0]
theorem sLn_col {σ : zS} {nw : Nat → Int32} {p : Nat} {W : Int32} (hcol : sSt σ p 0 = 1) (i : Nat) : sLn σ nw p W i = i := if_pos hcol
theorem sLn_row {σ : zS} {nw : Nat → Int32} {p : Nat} {W : Int32} (hcol : ¬ sSt σ p 0 = 1) (i : Nat) : sLn σ nw p W i = (zlu σ nw p W (i + 1)).1 := if_neg hcol
theorem sLCn_col {σ : zS} {nw : Nat → Int32} {p : Nat} {W : Int32} (hcol : sSt σ p 0 = 1) : sLCn σ nw p W = kn σ p := by
  unfold sLCn
  split
  · rename_i h; exact h.symm
  · rw [sLn_col hcol]; omega
theorem zspr_col {σ : zS} (hw : sWF σ) {nw : Nat → Int32} {p : Nat} {W : Int32} {I Ir : Nat → Nat → Int32} {P : Nat → Nat → Option Nat} {J : Nat → Nat → Int64} (hcol : sSt σ p 0 = 1) (h : zsetv [14, 17] (sKids σ p) 0 (kn σ p) (fun k j => if j = 14 then sKW σ nw p W k else nI (sLn σ nw p W k)) I Ir) : zsprQ σ nw p W I P J none (z_u Ir p 16 (nI (kn σ p))) P J := by
  refine ⟨rfl, rfl, rfl, fun q j h1 h2 _ _ => ?_, fun i q hq => ⟨?_, ?_⟩, ?_⟩
  · rw [z_u_r2 _ h2]
    exact h.1 q j (fun z => by
      obtain ⟨z1, k, _, _, z2⟩ := z
      exact h1 ⟨by simpa using z1, List.mem_of_getElem? z2⟩)
  · rw [z_u_b _ _ (by decide)]
    exact h.2 i q (Nat.zero_le _) (List.getElem?_eq_some_iff.mp hq).1 hq 14 (by decide)
  · rw [z_u_b _ _ (by decide)]
    exact h.2 i q (Nat.zero_le _) (List.getElem?_eq_some_iff.mp hq).1 hq 17 (by decide)
  · rw [z_u_s, sLCn_col hcol]
theorem zbrk_end {σ : zS} (hw : sWF σ) {nw : Nat → Int32} {p : Nat} {W : Int32} {I Ir : Nat → Nat → Int32} {P : Nat → Nat → Option Nat} {J : Nat → Nat → Int64} {v : Int32} (h : zsetv [17] (sKids σ p) 0 (kn σ p) (fun k _ => nI (sLn σ nw p W k)) I Ir) (hv : v = nI (sLCn σ nw p W)) : zbrkQ σ nw p W I P J none (z_u Ir p 16 v) P J := by
  refine ⟨rfl, rfl, rfl, fun q j h1 h2 => ?_, fun i q hq => ?_, ?_⟩
  · rw [z_u_r2 _ h2]
    exact h.1 q j (fun z => by
      obtain ⟨z1, k, _, _, z2⟩ := z
      exact h1 ⟨by simpa using z1, List.mem_of_getElem? z2⟩)
  · rw [z_u_b _ _ (by decide)]
    exact h.2 i q (Nat.zero_le _) (List.getElem?_eq_some_iff.mp hq).1 hq 17 (by decide)
  · rw [z_u_s, hv]
theorem sSO_eq {σ : zS} {nw : Nat → Int32} {p i k : Nat} (hkd : kd σ p i = k) (h0 : k ≠ 0) : sLimW σ k (sB σ nw k) + 2 * sSt σ k 6 = sSO σ nw p i := by
  unfold sSO sLimW
  rw [hkd, if_neg h0]
theorem zlu_brk {σ : zS} {nw : Nat → Int32} {p i : Nat} {W : Int32} (hwr : sSt σ p 1 = 1) (h : sIn W (sSt σ p 5) < (zlu σ nw p W (i + 1)).2 + sSt σ p 4 + sSO σ nw p (i + 1)) : zlu σ nw p W (i + 1 + 1) = ((zlu σ nw p W (i + 1)).1 + 1, sSO σ nw p (i + 1)) := if_pos ⟨hwr, h⟩
theorem zlu_go {σ : zS} {nw : Nat → Int32} {p i : Nat} {W : Int32} (h : ¬ (sSt σ p 1 = 1 ∧ sIn W (sSt σ p 5) < (zlu σ nw p W (i + 1)).2 + sSt σ p 4 + sSO σ nw p (i + 1))) : zlu σ nw p W (i + 1 + 1) = ((zlu σ nw p W (i + 1)).1, (zlu σ nw p W (i + 1)).2 + sSt σ p 4 + sSO σ nw p (i + 1)) := if_neg h
/-! ranges -/
theorem sSt_rng {σ : zS} (hw : sWF σ) {b k : Nat} (he : sEx σ b = true) (hk : k < 20) : (z_st 0 k).toInt ≤ (sSt σ b k).toInt ∧ (sSt σ b k).toInt ≤ (z_st 1 k).toInt := by
  have := hw.2.2.2.2.2.1 b he k hk
  exact ⟨(zi_le _ _).mp this.1, (zi_le _ _).mp this.2⟩
theorem zmul_nn {x y : Int32} (hx0 : 0 ≤ x.toInt) (hx : x.toInt ≤ 9) (hy0 : 0 ≤ y.toInt) (hy : y.toInt ≤ 10000) : (x * y).toInt = x.toInt * y.toInt ∧ 0 ≤ x.toInt * y.toInt ∧ x.toInt * y.toInt ≤ 90000 := by
  have h1 : 0 ≤ x.toInt * y.toInt := Int.mul_nonneg hx0 hy0
  have h2 : x.toInt * y.toInt ≤ 9 * 10000 := Int.mul_le_mul hx hy hy0 (by decide)
  refine ⟨?_, h1, by omega⟩
  rw [Int32.toInt_mul]
  apply Int.bmod_eq_of_le <;> omega
theorem sB_rng {σ : zS} (hw : sWF σ) {nat : Nat → Int32} {b : Nat} (he : sEx σ b = true) (hn : 0 ≤ (nat b).toInt ∧ (nat b).toInt ≤ 10000) : 0 ≤ (sB σ nat b).toInt ∧ (sB σ nat b).toInt ≤ 10000 := by
  unfold sB
  split
  · exact hn
  · rename_i h
    have h7 := sSt_rng hw he (k := 7) (by decide)
    have e0 : (z_st 0 7).toInt = -1 := by decide
    have e1 : (z_st 1 7).toInt = 1000 := by decide
    rw [e0, e1] at h7
    have : (sSt σ b 7).toInt ≠ -1 := fun q => h ((zi_eq _ _).mpr (by rw [q]; decide))
    omega
theorem zlim_rng {x lo hi : Int32} (hl : 0 ≤ lo.toInt ∧ lo.toInt ≤ 1000) (hh : 0 ≤ hi.toInt ∧ hi.toInt ≤ 10000) : 0 ≤ (zlim x lo hi).toInt ∧ (zlim x lo hi).toInt ≤ 10000 := by
  unfold zlim
  by_cases h1 : x < hi
  · rw [if_pos h1]
    by_cases h2 : lo < x
    · rw [if_pos h2]
      rw [zi_lt] at h1 h2
      omega
    · rw [if_neg h2]
      omega
  · rw [if_neg h1]
    by_cases h2 : lo < hi
    · rw [if_pos h2]
      omega
    · rw [if_neg h2]
      omega
theorem sSt_p {σ : zS} (hw : sWF σ) {b : Nat} (he : sEx σ b = true) : (0 ≤ (sSt σ b 8).toInt ∧ (sSt σ b 8).toInt ≤ 9) ∧ (0 ≤ (sSt σ b 9).toInt ∧ (sSt σ b 9).toInt ≤ 9) ∧ (0 ≤ (sSt σ b 6).toInt ∧ (sSt σ b 6).toInt ≤ 50) ∧ (0 ≤ (sSt σ b 4).toInt ∧ (sSt σ b 4).toInt ≤ 50) ∧ (0 ≤ (sSt σ b 5).toInt ∧ (sSt σ b 5).toInt ≤ 50) ∧ (0 ≤ (sSt σ b 12).toInt ∧ (sSt σ b 12).toInt ≤ 1000) ∧ (0 ≤ (sSt σ b 13).toInt ∧ (sSt σ b 13).toInt ≤ 1000) ∧ (0 ≤ (sSt σ b 14).toInt ∧ (sSt σ b 14).toInt ≤ 10000) ∧ (0 ≤ (sSt σ b 15).toInt ∧ (sSt σ b 15).toInt ≤ 10000) ∧ (0 ≤ (sSt σ b 19).toInt ∧ (sSt σ b 19).toInt ≤ 500) := by
  have f : ∀ k, k < 20 → ∀ lo hi : Int, (z_st 0 k).toInt = lo → (z_st 1 k).toInt = hi → lo ≤ (sSt σ b k).toInt ∧ (sSt σ b k).toInt ≤ hi := fun k hk lo hi h1 h2 => by
    have := sSt_rng hw he hk
    omega
  exact ⟨f 8 (by decide) 0 9 (by decide) (by decide), f 9 (by decide) 0 9 (by decide) (by decide), f 6 (by decide) 0 50 (by decide) (by decide), f 4 (by decide) 0 50 (by decide) (by decide), f 5 (by decide) 0 50 (by decide) (by decide), f 12 (by decide) 0 1000 (by decide) (by decide), f 13 (by decide) 0 1000 (by decide) (by decide), f 14 (by decide) 0 10000 (by decide) (by decide), f 15 (by decide) 0 10000 (by decide) (by decide), f 19 (by decide) 0 500 (by decide) (by decide)⟩
def zbd (σ : zS) (p : Nat) (nat : Nat → Int32) : Prop := ∀ k, k ∈ sKids σ p → 0 ≤ (nat k).toInt ∧ (nat k).toInt ≤ 10000
/-- the items of FLEXING as the class reads them -/
theorem zflex_S {σ : zS} {I : Nat → Nat → Int32} {P : Nat → Nat → Option Nat} (ht : zTr σ I P) {p : Nat} (wd : Bool) {nat : Nat → Int32} (hn : ∀ k, k ∈ sKids σ p → I k (if wd = true then 10 else 11) = nat k) {a z : Nat} (hz : z ≤ kn σ p) (sp : Int32) {gp : Int32} (hg : gp = sSt σ p 4) {k : Nat} (h1 : a ≤ k) (h2 : k < z) :
    fxSz (z - a) (sp - zsum (fun j => 2 * I (40 + (sKids σ p).getD (a + j) 0) 6) (z - a) - zgap (nI (z - a)) gp) (fun j => zbase I ((sKids σ p).getD (a + j) 0) wd) (fun j => I (40 + (sKids σ p).getD (a + j) 0) (if wd = true then 12 else 13)) (fun j => I (40 + (sKids σ p).getD (a + j) 0) (if wd = true then 14 else 15)) (fun j => I (40 + (sKids σ p).getD (a + j) 0) 8) (fun j => I (40 + (sKids σ p).getD (a + j) 0) 9) (k - a) = sFx σ p wd nat sp a z k := by
  have hk : ∀ j, j < z - a → kd σ p (a + j) ∈ sKids σ p ∧ sEx σ (kd σ p (a + j)) = true := fun j hj => ⟨kd_mem (by omega), (sKids_lt ht.1 (kd_mem (σ := σ) (p := p) (i := a + j) (by omega))).2.2.1⟩
  unfold sFx
  rw [hg, zsum_congr (f := fun j => 2 * I (40 + (sKids σ p).getD (a + j) 0) 6) (g := fun j => 2 * sSt σ (kd σ p (a + j)) 6) (fun j hj => by rw [zTr_st ht (hk j hj).2 (by decide)])]
  refine fxSz_congr (fun j hj => ?_) (fun j hj => ?_) (fun j hj => ?_) (fun j hj => ?_) (fun j hj => ?_) (k - a) (by omega)
  · show zbase I (kd σ p (a + j)) wd = sB σ nat (kd σ p (a + j))
    rw [zbase_S ht (hk j hj).2]
    unfold sB
    dsimp only
    rw [hn _ (hk j hj).1]
  · cases wd <;> exact zTr_st ht (hk j hj).2 (by decide)
  · cases wd <;> exact zTr_st ht (hk j hj).2 (by decide)
  · exact zTr_st ht (hk j hj).2 (by decide)
  · exact zTr_st ht (hk j hj).2 (by decide)
theorem zflex_pos {σ : zS} {I : Nat → Nat → Int32} {P : Nat → Nat → Option Nat} (ht : zTr σ I P) {p : Nat} (wd : Bool) {nat : Nat → Int32} (hn : ∀ k, k ∈ sKids σ p → I k (if wd = true then 10 else 11) = nat k) (hb : zbd σ p nat) {a z : Nat} (hz : z ≤ kn σ p) : (∀ j, j < z - a → 0 ≤ I (40 + (sKids σ p).getD (a + j) 0) 8) ∧ ∀ j, j < z - a → 0 ≤ I (40 + (sKids σ p).getD (a + j) 0) 9 * zbase I ((sKids σ p).getD (a + j) 0) wd := by
  have hk : ∀ j, j < z - a → kd σ p (a + j) ∈ sKids σ p ∧ sEx σ (kd σ p (a + j)) = true := fun j hj => ⟨kd_mem (by omega), (sKids_lt ht.1 (kd_mem (σ := σ) (p := p) (i := a + j) (by omega))).2.2.1⟩
  refine ⟨fun j hj => ?_, fun j hj => ?_⟩
  · show 0 ≤ I (40 + kd σ p (a + j)) 8
    rw [zTr_st ht (hk j hj).2 (by decide), zi_le]
    exact (sSt_p ht.1 (hk j hj).2).1.1
  · show 0 ≤ I (40 + kd σ p (a + j)) 9 * zbase I (kd σ p (a + j)) wd
    have e : zbase I (kd σ p (a + j)) wd = sB σ nat (kd σ p (a + j)) := by
      rw [zbase_S ht (hk j hj).2]
      unfold sB
      dsimp only
      rw [hn _ (hk j hj).1]
    rw [e, zTr_st ht (hk j hj).2 (by decide), zi_le]
    have h1 := (sSt_p ht.1 (hk j hj).2).2.1
    have h2 := sB_rng ht.1 (hk j hj).2 (hb _ (hk j hj).1)
    have h3 := zmul_nn h1.1 h1.2 h2.1 h2.2
    have : (0 : Int32).toInt = 0 := rfl
    rw [h3.1]
    omega
/-- the state of spreadWidths' loop at the line that begins with the a-th child -/
def zsprR (σ : zS) (nw : Nat → Int32) (p : Nat) (W : Int32) (a : Nat) (I I' : Nat → Nat → Int32) : Prop :=
  (∀ q j, ¬ ((j = 14 ∨ j = 17) ∧ q ∈ sKids σ p) → ¬ (q = p ∧ j = 16) → ¬ (q = 83 ∧ (j = 9 ∨ j = 10)) → ¬ (86 ≤ q ∧ q ≤ 94) → I' q j = I q j) ∧
  (∀ i q, (sKids σ p)[i]? = some q → (i < a → I' q 14 = sKW σ nw p W i) ∧ I' q 17 = nI (sLn σ nw p W i)) ∧ I' p 16 = nI (sLCn σ nw p W)
theorem zsprR.lay {σ : zS} (hw : sWF σ) {nw : Nat → Int32} {p a : Nat} {W : Int32} {I I' : Nat → Nat → Int32} (hp : p < 40) (h : zsprR σ nw p W a I I') : zLay I I' := fun q j hk => h.1 q j (fun z => by
  have := (sKids_lt hw z.2).2.1
  unfold zKeep at hk
  omega) (fun z => by unfold zKeep at hk; omega) (fun z => by unfold zKeep at hk; omega) (fun z => by unfold zKeep at hk; omega)
theorem kn_le {σ : zS} (hw : sWF σ) (p : Nat) : kn σ p ≤ 40 := by
  have h := List.nodup_range (n := 40)
  have hs : ∀ x, x ∈ sKids σ p → x ∈ List.range 40 := fun x hx => List.mem_range.mpr (sKids_lt hw hx).2.1
  have := List.Nodup.length_le_of_subset (sKids_nd (σ := σ) (p := p)) hs
  rw [List.length_range] at this
  exact this
end ZSPD
