section ZQ2
/-! .. and on the machine's numbers -/
def sg (gr : Bool) (x : Int) : Int := if gr = true then x else -x
def qmx (l h : Int) : Int := if l < h then h else l
def qa (gr : Bool) (lo hi : Nat → Int32) (j : Nat) : Int := if gr = true then (lo j).toInt else -(qmx (lo j).toInt (hi j).toInt)
def qb (gr : Bool) (lo hi : Nat → Int32) (j : Nat) : Int := if gr = true then qmx (lo j).toInt (hi j).toInt else -(lo j).toInt
theorem qmx_le (l h : Int) : l ≤ qmx l h ∧ h ≤ qmx l h := by
  unfold qmx
  by_cases q : l < h
  · rw [if_pos q]; omega
  · rw [if_neg q]; omega
theorem qab (gr : Bool) (lo hi : Nat → Int32) (j : Nat) : qa gr lo hi j ≤ qb gr lo hi j := by
  have q := qmx_le (lo j).toInt (hi j).toInt
  cases gr with
  | true => exact q.1
  | false =>
    show -(qmx (lo j).toInt (hi j).toInt) ≤ -(lo j).toInt
    omega
theorem zlim_int (x lo hi : Int32) : (zlim x lo hi).toInt = qcl x.toInt lo.toInt (qmx lo.toInt hi.toInt) := by
  have a1 := zi_lt x hi
  have a2 := zi_lt lo x
  have a3 := zi_lt lo hi
  unfold zlim qcl qmx
  by_cases h1 : x < hi
  · rw [if_pos h1]
    have g1 := a1.mp h1
    by_cases h2 : lo < x
    · have g2 := a2.mp h2
      rw [if_pos h2, if_neg (show ¬ x.toInt < lo.toInt by omega), if_pos (show lo.toInt < hi.toInt by omega), if_neg (show ¬ hi.toInt < x.toInt by omega)]
    · have g2 : ¬ lo.toInt < x.toInt := fun q => h2 (a2.mpr q)
      rw [if_neg h2]
      by_cases h3 : x.toInt < lo.toInt
      · rw [if_pos h3]
      · rw [if_neg h3]
        have e : x.toInt = lo.toInt := by omega
        by_cases h4 : lo.toInt < hi.toInt
        · rw [if_pos h4, if_neg (show ¬ hi.toInt < x.toInt by omega)]; exact e.symm
        · omega
  · rw [if_neg h1]
    have g1 : ¬ x.toInt < hi.toInt := fun q => h1 (a1.mpr q)
    by_cases h2 : lo < hi
    · have g2 := a3.mp h2
      rw [if_pos h2, if_neg (show ¬ x.toInt < lo.toInt by omega), if_pos g2]
      by_cases h3 : hi.toInt < x.toInt
      · rw [if_pos h3]
      · rw [if_neg h3]; omega
    · have g2 : ¬ lo.toInt < hi.toInt := fun q => h2 (a3.mpr q)
      rw [if_neg h2, if_neg g2]
      by_cases h3 : x.toInt < lo.toInt
      · rw [if_pos h3]
      · rw [if_neg h3]
        by_cases h4 : lo.toInt < x.toInt
        · rw [if_pos h4]
        · rw [if_neg h4]; omega
theorem qcl_neg {x a b : Int} (h : a ≤ b) : -(qcl x a b) = qcl (-x) (-b) (-a) := by
  unfold qcl
  by_cases h1 : x < a
  · rw [if_pos h1, if_neg (show ¬ -x < -b by omega), if_pos (show -a < -x by omega)]
  · rw [if_neg h1]
    by_cases h2 : b < x
    · rw [if_pos h2, if_pos (show -x < -b by omega)]
    · rw [if_neg h2, if_neg (show ¬ -x < -b by omega), if_neg (show ¬ -a < -x by omega)]
theorem zlim_sg (gr : Bool) (x : Int32) (lo hi : Nat → Int32) (j : Nat) : sg gr (zlim x (lo j) (hi j)).toInt = qcl (sg gr x.toInt) (qa gr lo hi j) (qb gr lo hi j) := by
  rw [zlim_int]
  cases gr with
  | true => rfl
  | false => exact qcl_neg (qmx_le _ _).1
theorem sg_sum (gr : Bool) (f : Nat → Int) (n : Nat) : zsumZ (fun j => sg gr (f j)) n = sg gr (zsumZ f n) := by
  cases gr with
  | true => rfl
  | false => exact zsumZ_min f n
theorem sg_add (gr : Bool) (x y : Int) : sg gr (x + y) = sg gr x + sg gr y := by
  cases gr with
  | true => rfl
  | false =>
    show -(x + y) = -x + -y
    omega
theorem sg_sub (gr : Bool) (x y : Int) : sg gr (x - y) = sg gr x - sg gr y := by
  cases gr with
  | true => rfl
  | false =>
    show -(x - y) = -x - -y
    omega
theorem sg_rng (gr : Bool) (x : Int) : sg gr x = x ∨ sg gr x = -x := by
  cases gr with
  | true => exact Or.inl rfl
  | false => exact Or.inr rfl
theorem sg_sg (gr : Bool) (x : Int) : sg gr (sg gr x) = x := by
  cases gr with
  | true => rfl
  | false =>
    show - -x = x
    omega
theorem qfx_sg (gr : Bool) (sm : Int64) (d : Int32) : fxFix sm d = qfx (sg gr sm.toInt) (sg gr d.toInt) := by
  have z0 : (0 : Int64).toInt = 0 := rfl
  have z1 : (0 : Int32).toInt = 0 := rfl
  have a1 := zl_eq sm 0
  have a2 := zl_lt 0 sm
  have a3 := zi_lt 0 d
  have a4 := zi_lt d 0
  rw [z0] at a1 a2
  rw [z1] at a3 a4
  unfold fxFix qfx
  cases gr with
  | true =>
    show _ = (if sm.toInt = 0 then true else if 0 < sm.toInt then decide (0 < d.toInt) else decide (d.toInt < 0))
    by_cases h1 : sm = 0
    · rw [if_pos h1, if_pos (a1.mp h1)]
    · rw [if_neg h1, if_neg (fun q => h1 (a1.mpr q))]
      by_cases h2 : 0 < sm
      · rw [if_pos h2, if_pos (a2.mp h2)]
        exact decide_eq_decide.mpr a3
      · rw [if_neg h2, if_neg (fun q => h2 (a2.mpr q))]
        exact decide_eq_decide.mpr a4
  | false =>
    show _ = (if -sm.toInt = 0 then true else if 0 < -sm.toInt then decide (0 < -d.toInt) else decide (-d.toInt < 0))
    by_cases h1 : sm = 0
    · have g1 := a1.mp h1
      rw [if_pos h1, if_pos (show -sm.toInt = 0 by omega)]
    · have g1 : ¬ sm.toInt = 0 := fun q => h1 (a1.mpr q)
      rw [if_neg h1, if_neg (show ¬ -sm.toInt = 0 by omega)]
      by_cases h2 : 0 < sm
      · have g2 := a2.mp h2
        rw [if_pos h2, if_neg (show ¬ 0 < -sm.toInt by omega)]
        exact decide_eq_decide.mpr (a3.trans (by omega))
      · have g2 : ¬ 0 < sm.toInt := fun q => h2 (a2.mpr q)
        rw [if_neg h2, if_pos (show 0 < -sm.toInt by omega)]
        exact decide_eq_decide.mpr (a4.trans (by omega))
/-- the open factors of the first k -/
def qO (fac : Nat → Int32) (st : Nat → Bool) (k : Nat) : Int := zsumZ (fun j => if st j = true then 0 else (fac j).toInt) k
theorem fxOpen_int {k : Nat} (hk : k ≤ 100) (fac : Nat → Int32) (st : Nat → Bool) : (fxOpen fac st k).toInt = qO fac st k := by
  have q := zsumL_int (f := fun j => if st j = true then (0 : Int64) else (fac j).toInt64) (n := k) (by omega) (fun j _ => zl_bd2 (st j) (fac j))
  unfold fxOpen qO
  rw [q]
  refine zsumZ_congr (fun j _ => ?_)
  by_cases e : st j = true
  · rw [if_pos e, if_pos e]; rfl
  · rw [if_neg e, if_neg e]; exact zl_toInt _
theorem qO_bd {fac : Nat → Int32} {st : Nat → Bool} : ∀ {k : Nat}, (∀ j, j < k → 0 ≤ (fac j).toInt ∧ (fac j).toInt ≤ 90000) → 0 ≤ qO fac st k ∧ qO fac st k ≤ k * 90000
  | 0, _ => ⟨Int.le_refl _, (by decide : (0 : Int) ≤ ((0 : Nat) : Int) * 90000)⟩
  | k + 1, h => by
    have ih := qO_bd (st := st) (k := k) (fun j hj => h j (by omega))
    have q := h k (by omega)
    have e : qO fac st (k + 1) = qO fac st k + (if st k = true then 0 else (fac k).toInt) := rfl
    rw [e]
    by_cases c : st k = true
    · rw [if_pos c]; omega
    · rw [if_neg c]; omega
theorem qO_s {fac : Nat → Int32} {st : Nat → Bool} {k : Nat} (h : 0 ≤ (fac k).toInt) : qO fac st k ≤ qO fac st (k + 1) ∧ (st k = true → qO fac st (k + 1) = qO fac st k) := by
  have e : qO fac st (k + 1) = qO fac st k + (if st k = true then 0 else (fac k).toInt) := rfl
  rw [e]
  by_cases c : st k = true
  · rw [if_pos c]; exact ⟨by omega, fun _ => by omega⟩
  · rw [if_neg c]; exact ⟨by omega, fun q => absurd q c⟩
theorem zl_div {x y : Int64} (hx : 0 ≤ x.toInt) (hy : 0 < y.toInt) : (x / y).toInt = x.toInt / y.toInt := by
  have b1 := Int64.toInt_lt x
  have b2 := Int.ediv_le_self y.toInt hx
  have b3 := Int.ediv_nonneg hx (Int.le_of_lt hy)
  rw [Int64.toInt_div, Int.tdiv_eq_ediv_of_nonneg hx]
  apply Int.bmod_eq_of_le <;> omega
/-- the part of the j-th -/
theorem fxPart_int {n j : Nat} {fac : Nat → Int32} {st : Nat → Bool} {amt : Int64} (hn : n ≤ 40) (hj : j < n) (hf : ∀ j, j < n → 0 ≤ (fac j).toInt ∧ (fac j).toInt ≤ 90000) (ha : 0 ≤ amt.toInt ∧ amt.toInt ≤ 10000000) (hA : 0 < qO fac st n) : (fxPart amt (fxOpen fac st n) fac st j).toInt = amt.toInt * qO fac st (j + 1) / qO fac st n - amt.toInt * qO fac st j / qO fac st n ∧ 0 ≤ amt.toInt * qO fac st (j + 1) / qO fac st n - amt.toInt * qO fac st j / qO fac st n ∧ amt.toInt * qO fac st (j + 1) / qO fac st n - amt.toInt * qO fac st j / qO fac st n ≤ 10000000 := by
  have m : ∀ k, k ≤ n → 0 ≤ qO fac st k ∧ qO fac st k ≤ 3600000 := fun k hk => by
    have := qO_bd (fac := fac) (st := st) (k := k) (fun i hi => hf i (by omega))
    omega
  have tot : ∀ d k, k + d = n → qO fac st k ≤ qO fac st n := by
    intro d
    induction d with
    | zero =>
      intro k hk
      rw [show k = n by omega]
      exact Int.le_refl _
    | succ d ih =>
      intro k hk
      have a := ih (k + 1) (by omega)
      have b := (qO_s (st := st) (hf k (by omega)).1).1
      omega
  have g : ∀ k, k ≤ n → (amt * fxOpen fac st k / fxOpen fac st n).toInt = amt.toInt * qO fac st k / qO fac st n ∧ 0 ≤ amt.toInt * qO fac st k / qO fac st n ∧ amt.toInt * qO fac st k / qO fac st n ≤ amt.toInt := fun k hk => by
    have q := m k hk
    have p0 : 0 ≤ amt.toInt * qO fac st k := Int.mul_nonneg ha.1 q.1
    have p1 : amt.toInt * qO fac st k ≤ 10000000 * 3600000 := Int.mul_le_mul ha.2 q.2 q.1 (by decide)
    have e1 : (amt * fxOpen fac st k).toInt = amt.toInt * qO fac st k := by
      rw [Int64.toInt_mul, fxOpen_int (by omega)]
      apply Int.bmod_eq_of_le <;> omega
    have e2 := fxOpen_int (k := n) (by omega) fac st
    refine ⟨?_, Int.ediv_nonneg p0 (by omega), ?_⟩
    · rw [zl_div (by rw [e1]; exact p0) (by rw [e2]; exact hA), e1, e2]
    · have t := tot (n - k) k (by omega)
      have u : amt.toInt * qO fac st k ≤ amt.toInt * qO fac st n := Int.mul_le_mul_of_nonneg_left t ha.1
      have v := Int.ediv_le_ediv hA u
      rw [Int.mul_ediv_cancel _ (by omega)] at v
      exact v
  have g1 := g (j + 1) (by omega)
  have g0 := g j (by omega)
  have u : amt.toInt * qO fac st j ≤ amt.toInt * qO fac st (j + 1) := Int.mul_le_mul_of_nonneg_left (qO_s (hf j hj).1).1 ha.1
  have v := Int.ediv_le_ediv hA u
  refine ⟨?_, by omega, by omega⟩
  unfold fxPart
  have e3 : (amt * fxOpen fac st (j + 1) / fxOpen fac st n - amt * fxOpen fac st j / fxOpen fac st n).toInt = amt.toInt * qO fac st (j + 1) / qO fac st n - amt.toInt * qO fac st j / qO fac st n := by
    rw [Int64.toInt_sub, g1.1, g0.1]
    apply Int.bmod_eq_of_le <;> omega
  rw [Int64.toInt_toInt32, e3]
  apply Int.bmod_eq_of_le <;> omega
theorem fxAmt_int {gr : Bool} {r : Int32} (h : 0 ≤ sg gr r.toInt) (hr : r.toInt ≤ 10000000 ∧ -10000000 ≤ r.toInt) : (fxAmt gr r).toInt = sg gr r.toInt := by
  have z1 : (0 : Int32).toInt = 0 := rfl
  have e : (if gr = true then r else -r).toInt = sg gr r.toInt := by
    cases gr with
    | true => rfl
    | false =>
      show (-r).toInt = -r.toInt
      rw [Int32.toInt_neg]
      apply Int.bmod_eq_of_le <;> omega
  unfold fxAmt
  rw [if_neg (fun q => by
    rw [zi_lt, e, z1] at q
    omega)]
  exact e
end ZQ2
