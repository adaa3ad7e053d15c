section ZMN
theorem zsn_W {σ : zS} {b : Nat} {c : Int32} : (if b = 0 then sNat (-1) c (sSt σ b 5) else zlim (sNat (sSt σ b (10 + 0)) c (sSt σ b 5)) (sSt σ b (12 + 0)) (sSt σ b (14 + 0))) = sLimW σ b (sNat (sFix σ b 10) c (sSt σ b 5)) := by
  unfold sLimW sFix
  by_cases h : b = 0
  · rw [if_pos h, if_pos h, if_pos h]
  · rw [if_neg h, if_neg h, if_neg h]
theorem zsn_H {σ : zS} {b : Nat} {c : Int32} : (if b = 0 then sNat (-1) c (sSt σ b 5) else zlim (sNat (sSt σ b (10 + 1)) c (sSt σ b 5)) (sSt σ b (12 + 1)) (sSt σ b (14 + 1))) = sLimH σ b (sNat (sFix σ b 11) c (sSt σ b 5)) := by
  unfold sLimH sFix
  by_cases h : b = 0
  · rw [if_pos h, if_pos h, if_pos h]
  · rw [if_neg h, if_neg h, if_neg h]
theorem zneg1 (x : Int32) : x - 1 = x + (-1) := Int32.sub_eq_add_neg x 1
/-- natural sizes of an axis, from the last box back to n -/
def zNa (σ : zS) (a : Nat) (v : Nat → Int32) (n : Nat) (I Ir : Nat → Nat → Int32) : Prop := (∀ q j, q ≠ 99 → ¬ (q = 95 ∧ j = 5) → ¬ (q = 101 ∧ j % 2 = a) → Ir q j = I q j) ∧ ∀ b, n ≤ b → sSh σ b = true → Ir 101 (2 * b + a) = v b
theorem zNa_0 {σ : zS} (hw : sWF σ) {a : Nat} {v : Nat → Int32} (I : Nat → Nat → Int32) : zNa σ a v (sGv σ) I I := ⟨fun _ _ _ _ _ => rfl, fun b hb h => absurd (hw.2.2.2.1 b (sSh_ex hw h).2) (by omega)⟩
theorem zNa_n {σ : zS} {a : Nat} {v : Nat → Int32} {k : Nat} {I Ir : Nat → Nat → Int32} (h : zNa σ a v (k + 1) I Ir) (hs : sSh σ k = false) : zNa σ a v k I Ir := ⟨h.1, fun b hb q => h.2 b (by
  by_cases e : b = k
  · rw [e, hs] at q; cases q
  · omega) q⟩
theorem zNa_s {σ : zS} {a : Nat} (ha : a < 2) {v : Nat → Int32} {k : Nat} {I Ir I2 : Nat → Nat → Int32} (h : zNa σ a v (k + 1) I Ir) (hf : ∀ q j, q ≠ 99 → ¬ (q = 95 ∧ j = 5) → I2 q j = Ir q j) {x : Int32} (hx : x = v k) : zNa σ a v k I (z_u I2 101 (2 * k + a) x) := by
  refine ⟨fun q j h1 h2 h3 => ?_, fun b hb hs => ?_⟩
  · rw [z_u_r2 _ (fun z => h3 ⟨z.1, by omega⟩), hf q j h1 h2]
    exact h.1 q j h1 h2 h3
  · by_cases e : b = k
    · rw [e, z_u_s, hx]
    · rw [z_u_b _ _ (by omega), hf 101 _ (by decide) (by omega)]
      exact h.2 b (by omega) hs
theorem zmin (x y : Int32) : (if x < y then x else y) = if y < x then y else x := by
  by_cases h : x < y
  · rw [if_pos h, if_neg (fun q => by
      rw [zi_lt] at h q
      omega)]
  · rw [if_neg h]
    by_cases q : y < x
    · rw [if_pos q]
    · rw [if_neg q]
      exact Int32.le_antisymm (Int32.not_lt.mp h) (Int32.not_lt.mp q)
/-- the model's memory of a layout: which cells a pass may write: the kids and their number, and those of f -/
def zMf (f : Nat → Nat → Prop) (I I' : Nat → Nat → Int32) : Prop := ∀ q j, q ≠ 99 → ¬ (q = 95 ∧ j = 5) → ¬ f q j → I' q j = I q j
/-- widths and lines of the first k kids of p -/
def zcw (σ : zS) (nw : Nat → Int32) (p : Nat) (W : Int32) (k : Nat) (I Ir : Nat → Nat → Int32) : Prop := (∀ q j, ¬ (q = 102 ∧ ∃ c, c ∈ sKids σ p ∧ j = 2 * c) → ¬ (q = 104 ∧ j ∈ sKids σ p) → Ir q j = I q j) ∧ ∀ i, i < k → Ir 102 (2 * kd σ p i) = sKW σ nw p W i ∧ Ir 104 (kd σ p i) = nI (sLn σ nw p W i)
theorem zcw_0 {σ : zS} {nw : Nat → Int32} {p : Nat} {W : Int32} {I : Nat → Nat → Int32} : zcw σ nw p W 0 I I := ⟨fun _ _ _ _ => rfl, fun i hi => absurd hi (Nat.not_lt_zero _)⟩
theorem kd_inj {σ : zS} {p i j : Nat} (hi : i < kn σ p) (hj : j < kn σ p) (h : kd σ p i = kd σ p j) : i = j := zlist_inj sKids_nd (by rw [sKids_at hi, h]) (sKids_at hj)
theorem zcw_s {σ : zS} {nw : Nat → Int32} {p : Nat} {W : Int32} {k : Nat} (hk : k < kn σ p) {I Ir : Nat → Nat → Int32} (h : zcw σ nw p W k I Ir) {x y : Int32} (hx : x = sKW σ nw p W k) (hy : y = nI (sLn σ nw p W k)) : zcw σ nw p W (k + 1) I (z_u (z_u Ir 102 (2 * kd σ p k + 0) x) 104 (kd σ p k) y) := by
  refine ⟨fun q j h1 h2 => ?_, fun i hi => ?_⟩
  · rw [z_u_r2 _ (fun z => h2 ⟨z.1, by rw [z.2]; exact kd_mem hk⟩), z_u_r2 (i := 102) (k := 2 * kd σ p k + 0) _ (fun z => h1 ⟨z.1, kd σ p k, kd_mem hk, z.2⟩)]
    exact h.1 q j h1 h2
  · by_cases e : i = k
    · rw [e]
      refine ⟨(z_u_a _ _ (by decide)).trans ((z_u_s Ir 102 (2 * kd σ p k + 0) x).trans hx), (z_u_s _ _ _ _).trans hy⟩
    · have ne : kd σ p i ≠ kd σ p k := fun z => e (kd_inj (by omega) hk z)
      rw [z_u_a _ _ (by decide), z_u_b _ _ (by omega), z_u_b _ _ ne, z_u_a _ _ (by decide)]
      exact h.2 i (by omega)
end ZMN
