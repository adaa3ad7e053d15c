section ZFX
def zsum (f : Nat → Int32) : Nat → Int32
  | 0 => 0
  | n + 1 => zsum f n + f n
def zsumL (f : Nat → Int64) : Nat → Int64
  | 0 => 0
  | n + 1 => zsumL f n + f n
def zfsub (r : Int32) (f : Nat → Int32) : Nat → Int32
  | 0 => r
  | n + 1 => zfsub r f n - f n
theorem zsum_congr {f g : Nat → Int32} : ∀ {n : Nat}, (∀ j, j < n → f j = g j) → zsum f n = zsum g n
  | 0, _ => rfl
  | n + 1, h => by
    show zsum f n + f n = zsum g n + g n
    rw [zsum_congr (fun j hj => h j (by omega)), h n (by omega)]
theorem zsumL_congr {f g : Nat → Int64} : ∀ {n : Nat}, (∀ j, j < n → f j = g j) → zsumL f n = zsumL g n
  | 0, _ => rfl
  | n + 1, h => by
    show zsumL f n + f n = zsumL g n + g n
    rw [zsumL_congr (fun j hj => h j (by omega)), h n (by omega)]
theorem zfsub_congr {r : Int32} {f g : Nat → Int32} : ∀ {n : Nat}, (∀ j, j < n → f j = g j) → zfsub r f n = zfsub r g n
  | 0, _ => rfl
  | n + 1, h => by
    show zfsub r f n - f n = zfsub r g n - g n
    rw [zfsub_congr (fun j hj => h j (by omega)), h n (by omega)]
theorem zrow_o (f : Nat → Int32) (I : Nat → Nat → Int32) {id n a j : Nat} (h : a ≠ id) : zrow f I id n a j = I a j := if_neg (fun q => h q.1)
theorem zrow_i (f : Nat → Int32) (I : Nat → Nat → Int32) {id n j : Nat} (h : j < n) : zrow f I id n id j = f j := if_pos ⟨rfl, h⟩
theorem zrow_g (f : Nat → Int32) (I : Nat → Nat → Int32) {id n j : Nat} (h : n ≤ j) : zrow f I id n id j = I id j := if_neg (fun q => absurd q.2 (Nat.not_lt.mpr h))
def zbase (I : Nat → Nat → Int32) (b : Nat) (w : Bool) : Int32 := if I (40 + b) 7 = -1 then (if w = true then I b 10 else I b 11) else I (40 + b) 7
/-! FLEXING as the document has it: bases, limits, factors; sizes and who is fixed -/
def fxStart (bs lo hi : Nat → Int32) (j : Nat) : Int32 := zlim (bs j) (lo j) (hi j)
def fxOpen (fac : Nat → Int32) (st : Nat → Bool) (n : Nat) : Int64 := zsumL (fun j => if st j = true then 0 else (fac j).toInt64) n
def fxRest (room : Int32) (bs sz : Nat → Int32) (st : Nat → Bool) (n : Nat) : Int32 := zfsub room (fun j => if st j = true then sz j else bs j) n
def fxAmt (gr : Bool) (rest : Int32) : Int32 := if (if gr = true then rest else -rest) < 0 then 0 else (if gr = true then rest else -rest)
def fxPart (amt all : Int64) (fac : Nat → Int32) (st : Nat → Bool) (j : Nat) : Int32 := (amt * fxOpen fac st (j + 1) / all - amt * fxOpen fac st j / all).toInt32
def fxP (gr : Bool) (amt all : Int64) (bs fac : Nat → Int32) (st : Nat → Bool) (j : Nat) : Int32 := bs j + (if gr = true then fxPart amt all fac st j else -fxPart amt all fac st j)
def fxDev (lo hi p : Nat → Int32) (j : Nat) : Int32 := zlim (p j) (lo j) (hi j) - p j
def fxSum (dv : Nat → Int32) (st : Nat → Bool) (n : Nat) : Int64 := zsumL (fun j => if st j = true then 0 else (dv j).toInt64) n
def fxFix (sm : Int64) (own : Int32) : Bool := if sm = 0 then true else if 0 < sm then decide (0 < own) else decide (own < 0)
def fxRound (n : Nat) (gr : Bool) (room : Int32) (bs lo hi fac : Nat → Int32) (s : (Nat → Int32) × (Nat → Bool)) : (Nat → Int32) × (Nat → Bool) :=
  let p := fxP gr (fxAmt gr (fxRest room bs s.1 s.2 n)).toInt64 (fxOpen fac s.2 n) bs fac s.2
  let sm := fxSum (fxDev lo hi p) s.2 n
  (fun j => if s.2 j = false ∧ fxFix sm (fxDev lo hi p j) = true then p j + fxDev lo hi p j else s.1 j, fun j => s.2 j || fxFix sm (fxDev lo hi p j))
def fxIt (n : Nat) (gr : Bool) (room : Int32) (bs lo hi fac : Nat → Int32) (s : (Nat → Int32) × (Nat → Bool)) : Nat → (Nat → Int32) × (Nat → Bool)
  | 0 => s
  | k + 1 => fxRound n gr room bs lo hi fac (fxIt n gr room bs lo hi fac s k)
def fxFac (gr : Bool) (gw sk bs : Nat → Int32) (j : Nat) : Int32 := if gr = true then gw j else sk j * bs j
def fxSt0 (gr : Bool) (bs lo hi fac : Nat → Int32) (j : Nat) : Bool := decide (fac j = 0) || (if gr = true then decide (fxStart bs lo hi j < bs j) else decide (bs j < fxStart bs lo hi j))
def fxGr (n : Nat) (room : Int32) (bs lo hi : Nat → Int32) : Bool := decide (zsum (fxStart bs lo hi) n < room)
/-- the sizes that FLEXING ends with -/
def fxSz (n : Nat) (room : Int32) (bs lo hi gw sk : Nat → Int32) : Nat → Int32 :=
  let gr := fxGr n room bs lo hi
  let fac := fxFac gr gw sk bs
  (fxIt n gr room bs lo hi fac (fxStart bs lo hi, fxSt0 gr bs lo hi fac) n).1
/-! what Flex' methods do to its rows (86 bases, 87 leasts, 88 greatests, 89 grows, 90 shrinks, 91 factors, 92 sizes, 93 deviations, 94 settled) -/
def zst (I : Nat → Nat → Int32) (j : Nat) : Bool := !decide (I 94 j = 0)
theorem zst_f {I : Nat → Nat → Int32} {j : Nat} (h : I 94 j = 0) : zst I j = false := by
  unfold zst
  rw [decide_eq_true h]
  rfl
theorem zst_t {I : Nat → Nat → Int32} {j : Nat} (h : ¬ I 94 j = 0) : zst I j = true := by
  unfold zst
  rw [decide_eq_false h]
  rfl
def zprop (I : Nat → Nat → Int32) (p d : Nat → Int32) (n : Nat) : Nat → Nat → Int32 := fun a j => if j < n ∧ zst I j = false then (if a = 92 then p j else if a = 93 then d j else I a j) else I a j
theorem zprop_0 (I : Nat → Nat → Int32) (p d : Nat → Int32) : zprop I p d 0 = I := by
  funext a j
  exact if_neg (fun q => Nat.not_lt_zero _ q.1)
theorem zprop_k (I : Nat → Nat → Int32) (p d : Nat → Int32) {n : Nat} (h : zst I n = true) : zprop I p d (n + 1) = zprop I p d n := by
  funext a j
  unfold zprop
  by_cases e : j = n
  · subst e
    simp [h]
  · have e2 : (j < n + 1) = (j < n) := by apply propext; omega
    simp only [e2]
theorem zprop_s (I : Nat → Nat → Int32) (p d : Nat → Int32) {n : Nat} (h : zst I n = false) : z_u (z_u (zprop I p d n) 92 n (p n)) 93 n (d n) = zprop I p d (n + 1) := by
  funext a j
  unfold z_u zprop
  by_cases e : j = n
  · subst e
    by_cases h2 : a = 92
    · simp [h2, h]
    · by_cases h3 : a = 93
      · simp [h3, h]
      · simp [h2, h3]
  · have e2 : (j < n + 1) = (j < n) := by apply propext; omega
    simp [e, e2]
theorem zprop_o (I : Nat → Nat → Int32) (p d : Nat → Int32) {n a j : Nat} (h1 : a ≠ 92) (h2 : a ≠ 93) : zprop I p d n a j = I a j := by
  unfold zprop
  rw [if_neg h1, if_neg h2]
  split <;> rfl
def zsetl (I : Nat → Nat → Int32) (sm : Int64) (n : Nat) : Nat → Nat → Int32 := fun a j => if j < n ∧ zst I j = false ∧ fxFix sm (I 93 j) = true then (if a = 92 then I 92 j + I 93 j else if a = 94 then 1 else I a j) else I a j
theorem zsetl_0 (I : Nat → Nat → Int32) (sm : Int64) : zsetl I sm 0 = I := by
  funext a j
  exact if_neg (fun q => Nat.not_lt_zero _ q.1)
theorem zsetl_k (I : Nat → Nat → Int32) (sm : Int64) {n : Nat} (h : zst I n = true ∨ fxFix sm (I 93 n) = false) : zsetl I sm (n + 1) = zsetl I sm n := by
  funext a j
  unfold zsetl
  by_cases e : j = n
  · subst e
    rcases h with h | h <;> simp [h]
  · have e2 : (j < n + 1) = (j < n) := by apply propext; omega
    simp only [e2]
theorem zsetl_s (I : Nat → Nat → Int32) (sm : Int64) {n : Nat} (h : zst I n = false) (h2 : fxFix sm (I 93 n) = true) : z_u (z_u (zsetl I sm n) 92 n (I 92 n + I 93 n)) 94 n 1 = zsetl I sm (n + 1) := by
  funext a j
  unfold z_u zsetl
  by_cases e : j = n
  · subst e
    by_cases h3 : a = 92
    · simp [h, h2, h3]
    · by_cases h4 : a = 94
      · simp [h, h2, h4]
      · simp [h3, h4]
  · have e2 : (j < n + 1) = (j < n) := by apply propext; omega
    simp [e, e2]
theorem zsetl_g (I : Nat → Nat → Int32) (sm : Int64) {n a j : Nat} (h : n ≤ j) : zsetl I sm n a j = I a j := if_neg (fun q => absurd q.1 (Nat.not_lt.mpr h))
theorem zsetl_o (I : Nat → Nat → Int32) (sm : Int64) {n a j : Nat} (h1 : a ≠ 92) (h2 : a ≠ 94) : zsetl I sm n a j = I a j := by
  unfold zsetl
  rw [if_neg h1, if_neg h2]
  split <;> rfl
theorem zl_mul0 (a b : Int64) : a * 0 / b = 0 := by
  rw [Int64.mul_zero]
  exact Int64.zero_div
theorem zlc_lt {x y : Int64} (h : 0 < lg_cmp x y) : y < x := by
  unfold lg_cmp at h
  split at h
  · assumption
  · split at h
    · exact absurd h (by decide)
    · exact absurd h (by decide)
theorem zlc_le {x y : Int64} (h : lg_cmp x y ≤ 0) : ¬ y < x := by
  intro q
  unfold lg_cmp at h
  rw [if_pos q] at h
  exact absurd h (by decide)
theorem zlc_eq {x y : Int64} (h : lg_cmp x y = 0) : x = y := by
  unfold lg_cmp at h
  split at h
  · exact absurd h (by decide)
  · split at h
    · assumption
    · exact absurd h (by decide)
theorem zlc_ne {x y : Int64} (h : ¬ lg_cmp x y = 0) : ¬ x = y := by
  intro q
  apply h
  unfold lg_cmp
  rw [q, if_neg Int64.lt_irrefl, if_pos rfl]
end ZFX
