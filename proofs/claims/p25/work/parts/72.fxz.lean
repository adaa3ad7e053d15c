section ZQ1
/-! FLEXING in whole numbers: growing, and shrinking as its mirror image -/
theorem zsumZ_congr {f g : Nat → Int} : ∀ {n : Nat}, (∀ j, j < n → f j = g j) → zsumZ f n = zsumZ g n
  | 0, _ => rfl
  | n + 1, h => by
    show zsumZ f n + f n = zsumZ g n + g n
    rw [zsumZ_congr (fun j hj => h j (by omega)), h n (by omega)]
theorem zsumZ_le {f g : Nat → Int} : ∀ {n : Nat}, (∀ j, j < n → f j ≤ g j) → zsumZ f n ≤ zsumZ g n
  | 0, _ => Int.le_refl _
  | n + 1, h => by
    have h1 := zsumZ_le (n := n) (fun j hj => h j (by omega))
    have h2 := h n (by omega)
    show zsumZ f n + f n ≤ zsumZ g n + g n
    omega
theorem zsumZ_min (f : Nat → Int) : ∀ n : Nat, zsumZ (fun j => -f j) n = -zsumZ f n
  | 0 => rfl
  | n + 1 => by
    show zsumZ (fun j => -f j) n + -f n = -(zsumZ f n + f n)
    rw [zsumZ_min f n]
    omega
theorem zsumZ_tel (G : Nat → Int) : ∀ n : Nat, zsumZ (fun j => G (j + 1) - G j) n = G n - G 0
  | 0 => by
    show (0 : Int) = G 0 - G 0
    omega
  | n + 1 => by
    show zsumZ (fun j => G (j + 1) - G j) n + (G (n + 1) - G n) = G (n + 1) - G 0
    rw [zsumZ_tel G n]
    omega
/-- limited to a .. b -/
def qcl (x a b : Int) : Int := if x < a then a else if b < x then b else x
theorem qcl_in {x a b : Int} (h : a ≤ b) : a ≤ qcl x a b ∧ qcl x a b ≤ b := by
  unfold qcl
  by_cases h1 : x < a
  · rw [if_pos h1]; omega
  · rw [if_neg h1]
    by_cases h2 : b < x
    · rw [if_pos h2]; omega
    · rw [if_neg h2]; omega
theorem qcl_mono {x y a b : Int} (h : a ≤ b) (q : x ≤ y) : qcl x a b ≤ qcl y a b := by
  unfold qcl
  by_cases h1 : x < a
  · rw [if_pos h1]
    by_cases h2 : y < a
    · rw [if_pos h2]; omega
    · rw [if_neg h2]
      by_cases h3 : b < y
      · rw [if_pos h3]; omega
      · rw [if_neg h3]; omega
  · rw [if_neg h1, if_neg (show ¬ y < a by omega)]
    by_cases h2 : b < x
    · rw [if_pos h2, if_pos (show b < y by omega)]; omega
    · rw [if_neg h2]
      by_cases h3 : b < y
      · rw [if_pos h3]; omega
      · rw [if_neg h3]; omega
theorem qcl_up {x a b : Int} (h : a ≤ b) (q : x < qcl x a b) : qcl x a b = a ∧ x < a := by
  unfold qcl at q ⊢
  by_cases h1 : x < a
  · rw [if_pos h1]; exact ⟨rfl, h1⟩
  · rw [if_neg h1] at q
    by_cases h2 : b < x
    · rw [if_pos h2] at q; omega
    · rw [if_neg h2] at q; omega
theorem qcl_dn {x a b : Int} (h : a ≤ b) (q : qcl x a b < x) : qcl x a b = b := by
  unfold qcl at q ⊢
  by_cases h1 : x < a
  · rw [if_pos h1] at q; omega
  · rw [if_neg h1] at q ⊢
    by_cases h2 : b < x
    · rw [if_pos h2]
    · rw [if_neg h2] at q; omega
theorem qcl_id {x a b : Int} (h : a ≤ b) : qcl (qcl x a b) a b = qcl x a b := by
  have q := qcl_in (x := x) h
  generalize qcl x a b = y at q
  unfold qcl
  rw [if_neg (show ¬ y < a by omega), if_neg (show ¬ b < y by omega)]
theorem qcl_lo {x a b : Int} (h : a ≤ b) (q : x < a) : qcl x a b = a := by
  unfold qcl
  rw [if_pos q]
def qfx (sm d : Int) : Bool := if sm = 0 then true else if 0 < sm then decide (0 < d) else decide (d < 0)
/-- what holds between the rounds -/
def qInv (n : Nat) (a b B : Nat → Int) (stk : Nat → Prop) (room : Int) (z : Nat → Int) (st : Nat → Bool) : Prop :=
  (∀ j, j < n → st j = true → qcl (B j) (a j) (b j) ≤ z j ∧ qcl (z j) (a j) (b j) = z j) ∧
  (∀ j, j < n → st j = false → B j ≤ qcl (B j) (a j) (b j)) ∧
  zsumZ (fun j => if st j = true then z j else qcl (B j) (a j) (b j)) n ≤ room ∧
  ((∀ j, j < n → st j = true → stk j ∨ z j = b j) ∨ room < zsumZ (fun j => if st j = true then z j else b j) n ∨ ((∀ j, j < n → st j = true) ∧ zsumZ z n = room))
theorem q_round {n : Nat} {a b B : Nat → Int} {stk : Nat → Prop} {room : Int} {z z' p d : Nat → Int} {st st' : Nat → Bool} {sm : Int}
    (hab : ∀ j, j < n → a j ≤ b j)
    (hd : ∀ j, j < n → d j = qcl (p j) (a j) (b j) - p j)
    (hsm : sm = zsumZ (fun j => if st j = true then 0 else d j) n)
    (hz : ∀ j, j < n → z' j = if st j = false ∧ qfx sm (d j) = true then qcl (p j) (a j) (b j) else z j)
    (hs : ∀ j, j < n → st' j = (st j || qfx sm (d j)))
    (hB : ∀ j, j < n → st j = false → B j ≤ p j)
    (hT : (∃ j, j < n ∧ st j = false) → zsumZ (fun j => if st j = true then z j else p j) n = room)
    (h : qInv n a b B stk room z st) : qInv n a b B stk room z' st' := by
  obtain ⟨h1, h2, h3, h4⟩ := h
  have k1 : ∀ j, j < n → st j = true → st' j = true ∧ z' j = z j := fun j hj e => by
    rw [hs j hj, hz j hj, e]
    exact ⟨rfl, if_neg (fun q => by cases q.1)⟩
  have k2 : ∀ j, j < n → st j = false → qfx sm (d j) = true → st' j = true ∧ z' j = qcl (p j) (a j) (b j) := fun j hj e f => by
    rw [hs j hj, hz j hj, e, f]
    exact ⟨rfl, if_pos ⟨rfl, rfl⟩⟩
  have k3 : ∀ j, j < n → st j = false → qfx sm (d j) = false → st' j = false := fun j hj e f => by
    rw [hs j hj, e, f]
    rfl
  have i1 : ∀ j, j < n → st' j = true → qcl (B j) (a j) (b j) ≤ z' j ∧ qcl (z' j) (a j) (b j) = z' j := fun j hj e => by
    cases es : st j with
    | true =>
      rw [(k1 j hj es).2]
      exact h1 j hj es
    | false =>
      cases ef : qfx sm (d j) with
      | true =>
        rw [(k2 j hj es ef).2]
        exact ⟨qcl_mono (hab j hj) (hB j hj es), qcl_id (hab j hj)⟩
      | false =>
        rw [k3 j hj es ef] at e
        cases e
  have i2 : ∀ j, j < n → st' j = false → B j ≤ qcl (B j) (a j) (b j) := fun j hj e => by
    cases es : st j with
    | true =>
      rw [(k1 j hj es).1] at e
      cases e
    | false => exact h2 j hj es
  rcases Classical.em (∃ j, j < n ∧ st j = false) with hu | hu
  · have hE : zsumZ (fun j => if st j = true then z j else qcl (p j) (a j) (b j)) n = room + sm := by
      have q := zsumZ_add (n := n) (f := fun j => if st j = true then z j else p j) (g := fun j => if st j = true then 0 else d j) (h := fun j => if st j = true then z j else qcl (p j) (a j) (b j)) (fun j hj => by
        by_cases e : st j = true
        · simp only [if_pos e]
          omega
        · simp only [if_neg e]
          rw [hd j hj]
          omega)
      rw [q, hT hu, hsm]
    rcases Int.lt_trichotomy sm 0 with q | q | q
    · have f0 : ∀ j, qfx sm (d j) = decide (d j < 0) := fun j => by
        unfold qfx
        rw [if_neg (by omega), if_neg (by omega)]
      have f1 : ∀ j, j < n → st j = false → qfx sm (d j) = true → z' j = b j := fun j hj e f => by
        rw [(k2 j hj e f).2]
        rw [f0] at f
        have g := of_decide_eq_true f
        rw [hd j hj] at g
        exact qcl_dn (hab j hj) (by omega)
      refine ⟨i1, i2, ?_, ?_⟩
      · have r := zsumZ_le (n := n) (f := fun j => if st' j = true then z' j else qcl (B j) (a j) (b j)) (g := fun j => if st j = true then z j else qcl (p j) (a j) (b j)) (fun j hj => by
          cases es : st j with
          | true =>
            rw [(k1 j hj es).1, (k1 j hj es).2]
            exact Int.le_refl _
          | false =>
            cases ef : qfx sm (d j) with
            | true =>
              rw [(k2 j hj es ef).1, (k2 j hj es ef).2]
              exact Int.le_refl _
            | false =>
              rw [k3 j hj es ef]
              exact qcl_mono (hab j hj) (hB j hj es))
        rw [hE] at r
        omega
      · rcases h4 with h4 | h4 | h4
        · refine Or.inl (fun j hj e => ?_)
          cases es : st j with
          | true =>
            rw [(k1 j hj es).2]
            exact h4 j hj es
          | false =>
            cases ef : qfx sm (d j) with
            | true => exact Or.inr (f1 j hj es ef)
            | false =>
              rw [k3 j hj es ef] at e
              cases e
        · refine Or.inr (Or.inl ?_)
          rw [zsumZ_congr (g := fun j => if st j = true then z j else b j) (fun j hj => by
            cases es : st j with
            | true => rw [(k1 j hj es).1, (k1 j hj es).2]
            | false =>
              cases ef : qfx sm (d j) with
              | true =>
                rw [(k2 j hj es ef).1, f1 j hj es ef]
                rfl
              | false =>
                rw [k3 j hj es ef]
                rfl)]
          exact h4
        · obtain ⟨j, hj, e⟩ := hu
          rw [h4.1 j hj] at e
          cases e
    · have f0 : ∀ j, qfx sm (d j) = true := fun j => by
        unfold qfx
        rw [if_pos q]
      have all : ∀ j, j < n → st' j = true := fun j hj => by
        cases es : st j with
        | true => exact (k1 j hj es).1
        | false => exact (k2 j hj es (f0 j)).1
      have hsum : zsumZ z' n = room := by
        rw [zsumZ_congr (g := fun j => if st j = true then z j else qcl (p j) (a j) (b j)) (fun j hj => by
          cases es : st j with
          | true => exact (k1 j hj es).2
          | false => exact (k2 j hj es (f0 j)).2), hE]
        omega
      refine ⟨i1, i2, ?_, Or.inr (Or.inr ⟨all, hsum⟩)⟩
      rw [zsumZ_congr (g := z') (fun j hj => by rw [all j hj]; rfl), hsum]
      exact Int.le_refl _
    · have f0 : ∀ j, qfx sm (d j) = decide (0 < d j) := fun j => by
        unfold qfx
        rw [if_neg (by omega), if_pos q]
      have f1 : ∀ j, j < n → st j = false → qfx sm (d j) = true → z' j = qcl (B j) (a j) (b j) := fun j hj e f => by
        rw [(k2 j hj e f).2]
        rw [f0] at f
        have g := of_decide_eq_true f
        rw [hd j hj] at g
        have u := qcl_up (hab j hj) (show p j < qcl (p j) (a j) (b j) by omega)
        have v := hB j hj e
        rw [u.1, qcl_lo (hab j hj) (by omega)]
      refine ⟨i1, i2, ?_, Or.inr (Or.inl ?_)⟩
      · rw [zsumZ_congr (g := fun j => if st j = true then z j else qcl (B j) (a j) (b j)) (fun j hj => by
          cases es : st j with
          | true => rw [(k1 j hj es).1, (k1 j hj es).2]
          | false =>
            cases ef : qfx sm (d j) with
            | true =>
              rw [(k2 j hj es ef).1, f1 j hj es ef]
              rfl
            | false =>
              rw [k3 j hj es ef]
              rfl)]
        exact h3
      · have r := zsumZ_le (n := n) (g := fun j => if st' j = true then z' j else b j) (f := fun j => if st j = true then z j else qcl (p j) (a j) (b j)) (fun j hj => by
          cases es : st j with
          | true =>
            rw [(k1 j hj es).1, (k1 j hj es).2]
            exact Int.le_refl _
          | false =>
            cases ef : qfx sm (d j) with
            | true =>
              rw [(k2 j hj es ef).1, (k2 j hj es ef).2]
              exact Int.le_refl _
            | false =>
              rw [k3 j hj es ef]
              exact (qcl_in (hab j hj)).2)
        rw [hE] at r
        omega
  · have all0 : ∀ j, j < n → st j = true := fun j hj => by
      cases es : st j with
      | true => rfl
      | false => exact absurd ⟨j, hj, es⟩ hu
    refine ⟨i1, i2, ?_, ?_⟩
    · rw [zsumZ_congr (g := fun j => if st j = true then z j else qcl (B j) (a j) (b j)) (fun j hj => by rw [(k1 j hj (all0 j hj)).1, (k1 j hj (all0 j hj)).2, all0 j hj])]
      exact h3
    · rcases h4 with h4 | h4 | h4
      · refine Or.inl (fun j hj e => ?_)
        rw [(k1 j hj (all0 j hj)).2]
        exact h4 j hj (all0 j hj)
      · refine Or.inr (Or.inl ?_)
        rw [zsumZ_congr (g := fun j => if st j = true then z j else b j) (fun j hj => by rw [(k1 j hj (all0 j hj)).1, (k1 j hj (all0 j hj)).2, all0 j hj])]
        exact h4
      · refine Or.inr (Or.inr ⟨fun j hj => (k1 j hj (all0 j hj)).1, ?_⟩)
        rw [zsumZ_congr (g := z) (fun j hj => (k1 j hj (all0 j hj)).2)]
        exact h4.2
end ZQ1
