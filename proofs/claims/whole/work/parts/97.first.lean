section ZFI
/-- the tree at the start: one box -/
def zs0 : zS := (fun b => decide (b = 0), fun _ => 0, fun _ k => z_st 2 k, 800, 600, 1)
theorem zs0_ex {b : Nat} (h : sEx zs0 b = true) : b = 0 := of_decide_eq_true h
theorem zs0_wf : sWF zs0 := by
  refine ⟨rfl, Nat.le_refl _, by decide, fun b h => ?_, fun b h h0 => absurd (zs0_ex h) h0, fun b _ k hk => ?_, by decide, by decide⟩
  · rw [zs0_ex h]
    decide
  · have t : ∀ k, k < 20 → z_st 0 k ≤ z_st 2 k ∧ z_st 2 k ≤ z_st 1 k := by decide
    exact t k hk
theorem zI0_b {b : Nat} (h : b < 40) : zI0 b = fun j => if j = 0 then nI b else if j = 2 then (if b = 0 then 1 else 0) else 0 := if_pos h
theorem zI0_0 {j : Nat} (h0 : j ≠ 0) (h2 : j ≠ 2) : zI0 0 j = 0 := by
  rw [zI0_b (by decide)]
  show (if j = 0 then nI 0 else if j = 2 then (if 0 = 0 then 1 else 0) else 0) = (0 : Int32)
  rw [if_neg h0, if_neg h2]
theorem zs0_tr : zTr zs0 zI0 zP0 := by
  refine ⟨zs0_wf, fun b hb => ?_, fun b hb => ?_, fun b h h0 => absurd (zs0_ex h) h0, rfl, fun b a _ q => (by cases q), fun b k h hk => ?_, rfl, rfl, rfl⟩
  · rw [zI0_b hb]
    rfl
  · rw [zI0_b hb]
    show (if b = 0 then (1 : Int32) else 0) = zB (decide (b = 0))
    by_cases e : b = 0
    · rw [if_pos e, decide_eq_true e]
      rfl
    · rw [if_neg e, decide_eq_false e]
      rfl
  · rw [zs0_ex h]
    show (if k < 20 then z_st 2 k else 0) = z_st 2 k
    rw [if_pos hk]
theorem zs0_md : zMd zs0 zI0 := by
  refine ⟨zs0_wf, rfl, rfl, rfl, fun b hb => ?_, fun b k h hk => ?_⟩
  · have e : b = 0 := by
      have : b < 1 := hb
      omega
    rw [e]
    rfl
  · rw [zs0_ex h]
    show upd (zmk (upd (upd (upd (fun _ => 0) 1 800) 2 600) 3 (-1)) 20) 0 (0 + 1) (43 + 20 * 0 + k) = z_st 2 k
    unfold upd zmk
    rw [if_neg (by omega), if_pos (by omega), show 43 + 20 * 0 + k - 43 = k by omega]
theorem zs0_li (τ : Nat → zS) : zLI 111 zs0 τ zI0 zP0 :=
  ⟨⟨zs0_tr, ⟨zI0_0 (by decide) (by decide), zI0_0 (by decide) (by decide), zI0_0 (by decide) (by decide)⟩, fun q => absurd q (by decide)⟩, zs0_md, ⟨0, rfl⟩, fun t _ => Or.inl ⟨rfl, rfl⟩, fun s q => by cases q⟩
end ZFI
