section ZT7
/-! the law's tree, call by call -/
/-- the tree at the start: one box -/
def zs0 : zS := (fun b => decide (b = 0), fun _ => 0, fun _ k => z_st 2 k, 800, 600, 1)
theorem zs0_ex {b : Nat} (h : sEx zs0 b = true) : b = 0 := of_decide_eq_true h
theorem zs0_wf : sWF zs0 := by
  refine ⟨rfl, Nat.le_refl _, by decide, fun b h => ?_, fun b h h0 => absurd (zs0_ex h) h0, fun b _ k hk => ?_, by decide, by decide⟩
  · rw [zs0_ex h]
    decide
  · have t : ∀ k, k < 20 → z_st 0 k ≤ z_st 2 k ∧ z_st 2 k ≤ z_st 1 k := by decide
    exact t k hk
theorem sSt_set (σ : zS) (b k : Nat) (v : Int32) (c j : Nat) : sSt (sSet σ b k v) c j = if c = b ∧ j = k then v else sSt σ c j := rfl
theorem tT_0b {W g a : Int32} {q : tP} {lo hi mg bs gw : Nat → Int32} (hq : q = ((W, g, a, 0, 0), lo, hi, mg, bs, gw)) {σ : zS} (hσ : σ = sSet (sSet (sVp zs0 W 300) 0 4 g) 0 5 a) (hw : sWF σ) : tT 0 0 q σ := by
  subst hq
  subst hσ
  refine ⟨hw, rfl, fun b => ?_, fun b hb => absurd hb (Nat.not_lt_zero _), rfl, rfl, fun k hk => ?_, fun b k hb _ => absurd hb (Nat.not_lt_zero _)⟩
  · show decide (b = 0) = decide (b < 0 + 1)
    exact decide_eq_decide.mpr (by omega)
  · rw [sSt_set, sSt_set]
    show (if 0 = 0 ∧ k = 5 then a else if 0 = 0 ∧ k = 4 then g else z_st 2 k) = if k = 1 then 0 else if k = 2 then 0 else if k = 4 then g else if k = 5 then a else z_st 2 k
    by_cases e5 : k = 5
    · subst e5
      rfl
    · rw [if_neg (fun z => e5 z.2)]
      by_cases e4 : k = 4
      · subst e4
        rfl
      · rw [if_neg (fun z => e4 z.2), if_neg e4, if_neg e5]
        by_cases e1 : k = 1
        · subst e1
          rfl
        · rw [if_neg e1]
          by_cases e2 : k = 2
          · subst e2
            rfl
          · rw [if_neg e2]
theorem tBx_z {q : tP} {h j k : Nat} (h1 : k ≠ 6) (h2 : k ≠ 7) (h3 : k ≠ 8) (h4 : k ≠ 12) (h5 : k ≠ 14) (h6 : ¬ (k = 18 ∧ j = 0)) : tBx q h j k = z_st 2 k := by
  unfold tBx
  rw [if_neg h1, if_neg h2, if_neg h3, if_neg h4, if_neg h5, if_neg h6]
/-- one box more -/
theorem tT_s {m : Nat} {q q' : tP} {σ σ' : zS} (T : tT m 0 q σ) (hr : q'.1 = q.1) (ha : ∀ j, j < m → tLo q' j = tLo q j ∧ tHi q' j = tHi q j ∧ tM q' j = tM q j ∧ tB q' j = tB q j ∧ tGw q' j = tGw q j) (hσ : σ' = sSet (sSet (sSet (sSet (sSet (sAdd σ 0) (m + 1) 12 (tLo q' m)) (m + 1) 14 (tHi q' m)) (m + 1) 6 (tM q' m)) (m + 1) 7 (tB q' m)) (m + 1) 8 (tGw q' m)) (hw : sWF σ') : tT (m + 1) 0 q' σ' := by
  have eg := T.2.1
  have st : ∀ c j, sSt σ' c j = if c = m + 1 ∧ j = 8 then tGw q' m else if c = m + 1 ∧ j = 7 then tB q' m else if c = m + 1 ∧ j = 6 then tM q' m else if c = m + 1 ∧ j = 14 then tHi q' m else if c = m + 1 ∧ j = 12 then tLo q' m else if c = m + 1 then z_st 2 j else sSt σ c j := fun c j => by
    rw [hσ, sSt_set, sSt_set, sSt_set, sSt_set, sSt_set]
    show _ = if c = m + 1 ∧ j = 8 then tGw q' m else if c = m + 1 ∧ j = 7 then tB q' m else if c = m + 1 ∧ j = 6 then tM q' m else if c = m + 1 ∧ j = 14 then tHi q' m else if c = m + 1 ∧ j = 12 then tLo q' m else if c = m + 1 then z_st 2 j else sSt σ c j
    rw [← eg]
    rfl
  have old : ∀ c j, c ≠ m + 1 → sSt σ' c j = sSt σ c j := fun c j hc => by
    rw [st, if_neg (fun z => hc z.1), if_neg (fun z => hc z.1), if_neg (fun z => hc z.1), if_neg (fun z => hc z.1), if_neg (fun z => hc z.1), if_neg hc]
  refine ⟨hw, ?_, fun b => ?_, fun b hb => ?_, ?_, ?_, fun k hk => ?_, fun b k hb hk => ?_⟩
  · rw [hσ]
    show sGv σ + 1 = m + 1 + 1
    rw [eg]
  · rw [hσ]
    show (if b = sGv σ then true else sEx σ b) = decide (b < m + 1 + 1)
    rw [eg, T.2.2.1 b]
    by_cases e : b = m + 1
    · rw [if_pos e]
      exact (decide_eq_true (by omega)).symm
    · rw [if_neg e]
      exact decide_eq_decide.mpr (by omega)
  · rw [hσ]
    show (if b + 1 = sGv σ then 0 else sPa σ (b + 1)) = 0
    rw [eg]
    by_cases e : b + 1 = m + 1
    · rw [if_pos e]
    · rw [if_neg e]
      exact T.2.2.2.1 b (by omega)
  · rw [hσ]
    show sVw σ = tW q'
    rw [T.2.2.2.2.1]
    show q.1.1 = q'.1.1
    rw [hr]
  · rw [hσ]
    exact T.2.2.2.2.2.1
  · rw [old 0 k (by omega), T.2.2.2.2.2.2.1 k hk]
    unfold tRt
    show (if k = 1 then q.1.2.2.2.2 else if k = 2 then q.1.2.2.2.1 else if k = 4 then q.1.2.1 else if k = 5 then q.1.2.2.1 else z_st 2 k) = (if k = 1 then q'.1.2.2.2.2 else if k = 2 then q'.1.2.2.2.1 else if k = 4 then q'.1.2.1 else if k = 5 then q'.1.2.2.1 else z_st 2 k)
    rw [hr]
  · by_cases e : b = m
    · subst e
      rw [st]
      unfold tBx
      by_cases e8 : k = 8
      · subst e8
        rw [if_pos ⟨rfl, rfl⟩]
        rfl
      · rw [if_neg (fun z => e8 z.2)]
        by_cases e7 : k = 7
        · subst e7
          rw [if_pos ⟨rfl, rfl⟩]
          rfl
        · rw [if_neg (fun z => e7 z.2)]
          by_cases e6 : k = 6
          · subst e6
            rw [if_pos ⟨rfl, rfl⟩]
            rfl
          · rw [if_neg (fun z => e6 z.2)]
            by_cases e14 : k = 14
            · subst e14
              rw [if_pos ⟨rfl, rfl⟩]
              rfl
            · rw [if_neg (fun z => e14 z.2)]
              by_cases e12 : k = 12
              · subst e12
                rw [if_pos ⟨rfl, rfl⟩]
                rfl
              · rw [if_neg (fun z => e12 z.2), if_pos rfl, if_neg e6, if_neg e7, if_neg e8, if_neg e12, if_neg e14]
                by_cases e18 : k = 18 ∧ b = 0
                · rw [if_pos e18, e18.1]
                  rfl
                · rw [if_neg e18]
    · have a := ha b (by omega)
      rw [old (b + 1) k (by omega), T.2.2.2.2.2.2.2 b k (by omega) hk]
      unfold tBx
      rw [a.1, a.2.1, a.2.2.1, a.2.2.2.1, a.2.2.2.2]
/-- JUSTIFY and WRAP -/
theorem tT_j {m h : Nat} {q : tP} {σ : zS} (T : tT m h q σ) {v : Int32} (hw : sWF (sSet σ 0 2 v)) : tT m h (qJ q v (tR q)) (sSet σ 0 2 v) := by
  refine ⟨hw, T.2.1, T.2.2.1, T.2.2.2.1, T.2.2.2.2.1, T.2.2.2.2.2.1, fun k hk => ?_, fun b k hb hk => ?_⟩
  · rw [sSt_set]
    have t := T.2.2.2.2.2.2.1 k hk
    show _ = (if k = 1 then tR q else if k = 2 then v else if k = 4 then tG q else if k = 5 then tA q else z_st 2 k)
    by_cases e : k = 2
    · subst e
      rw [if_pos ⟨rfl, rfl⟩]
      rfl
    · rw [if_neg (fun z => e z.2), t, if_neg e]
      unfold tRt
      rw [if_neg e]
  · rw [sSt_set, if_neg (fun z => by omega)]
    exact T.2.2.2.2.2.2.2 b k hb hk
theorem tT_w {m h : Nat} {q : tP} {σ : zS} (T : tT m h q σ) {v : Int32} (hw : sWF (sSet σ 0 1 v)) : tT m h (qJ q (tJ q) v) (sSet σ 0 1 v) := by
  refine ⟨hw, T.2.1, T.2.2.1, T.2.2.2.1, T.2.2.2.2.1, T.2.2.2.2.2.1, fun k hk => ?_, fun b k hb hk => ?_⟩
  · rw [sSt_set]
    have t := T.2.2.2.2.2.2.1 k hk
    show _ = (if k = 1 then v else if k = 2 then tJ q else if k = 4 then tG q else if k = 5 then tA q else z_st 2 k)
    by_cases e : k = 1
    · subst e
      rw [if_pos ⟨rfl, rfl⟩]
      rfl
    · rw [if_neg (fun z => e z.2), t, if_neg e]
      unfold tRt
      rw [if_neg e]
  · rw [sSt_set, if_neg (fun z => by omega)]
    exact T.2.2.2.2.2.2.2 b k hb hk
/-- the first box hidden -/
theorem tT_h {m : Nat} {q : tP} {σ : zS} (T : tT m 0 q σ) (hw : sWF (sSet σ 1 18 1)) : tT m 1 q (sSet σ 1 18 1) := by
  refine ⟨hw, T.2.1, T.2.2.1, T.2.2.2.1, T.2.2.2.2.1, T.2.2.2.2.2.1, fun k hk => ?_, fun b k hb hk => ?_⟩
  · rw [sSt_set, if_neg (fun z => by omega)]
    exact T.2.2.2.2.2.2.1 k hk
  · rw [sSt_set, T.2.2.2.2.2.2.2 b k hb hk]
    by_cases e : k = 18 ∧ b = 0
    · rw [if_pos ⟨by omega, e.1⟩]
      obtain ⟨rfl, rfl⟩ := e
      rfl
    · rw [if_neg (fun z => e ⟨z.2, by omega⟩)]
      unfold tBx
      by_cases e6 : k = 6
      · rw [if_pos e6, if_pos e6]
      · rw [if_neg e6, if_neg e6]
        by_cases e7 : k = 7
        · rw [if_pos e7, if_pos e7]
        · rw [if_neg e7, if_neg e7]
          by_cases e8 : k = 8
          · rw [if_pos e8, if_pos e8]
          · rw [if_neg e8, if_neg e8]
            by_cases e12 : k = 12
            · rw [if_pos e12, if_pos e12]
            · rw [if_neg e12, if_neg e12]
              by_cases e14 : k = 14
              · rw [if_pos e14, if_pos e14]
              · rw [if_neg e14, if_neg e14, if_neg e, if_neg e]
theorem tNd_congr {m : Nat} {q q' : tP} (hr : q'.1 = q.1) : ∀ {k : Nat}, (∀ j, j < k → tLo q' j = tLo q j ∧ tHi q' j = tHi q j ∧ tM q' j = tM q j ∧ tB q' j = tB q j ∧ tGw q' j = tGw q j) → tNd m q' k = tNd m q k
  | 0, _ => by
    show 2 * q'.1.2.2.1 + q'.1.2.1 * (nI m - 1) = 2 * q.1.2.2.1 + q.1.2.1 * (nI m - 1)
    rw [hr]
  | k + 1, h => by
    have ih := tNd_congr (m := m) hr (k := k) (fun j hj => h j (by omega))
    have a := h k (by omega)
    show tNd m q' k + (zlim (tB q' k) (tLo q' k) (tHi q' k) + 2 * tM q' k) = tNd m q k + (zlim (tB q k) (tLo q k) (tHi q k) + 2 * tM q k)
    rw [ih, a.1, a.2.1, a.2.2.1, a.2.2.2.1]
end ZT7
