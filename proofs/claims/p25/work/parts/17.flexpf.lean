section ZFP
def zsumZ (f : Nat → Int) : Nat → Int
  | 0 => 0
  | n + 1 => zsumZ f n + f n
theorem zi_rng (x : Int32) : -2147483648 ≤ x.toInt ∧ x.toInt < 2147483648 := ⟨x.minValue_le_toInt, by have := x.toInt_lt; omega⟩
theorem zl_toInt (x : Int32) : x.toInt64.toInt = x.toInt := Int32.toInt_toInt64 x
theorem zsumZ_bd {f : Nat → Int} {c : Int} (hc : 0 ≤ c) : ∀ {n : Nat}, (∀ j, j < n → -c ≤ f j ∧ f j ≤ c) → -(n * c) ≤ zsumZ f n ∧ zsumZ f n ≤ n * c
  | 0, _ => by simp [zsumZ]
  | n + 1, h => by
    have h1 := zsumZ_bd hc (n := n) (fun j hj => h j (by omega))
    have h2 := h n (by omega)
    have e : ((n + 1 : Nat) : Int) * c = n * c + c := by rw [Int.natCast_add, Int.add_mul]; simp
    rw [e]
    show -(n * c + c) ≤ zsumZ f n + f n ∧ zsumZ f n + f n ≤ n * c + c
    omega
theorem zsumL_int {f : Nat → Int64} : ∀ {n : Nat}, n ≤ 1000 → (∀ j, j < n → -4294967296 ≤ (f j).toInt ∧ (f j).toInt ≤ 4294967296) → (zsumL f n).toInt = zsumZ (fun j => (f j).toInt) n
  | 0, _, _ => rfl
  | n + 1, hn, h => by
    have ih := zsumL_int (n := n) (by omega) (fun j hj => h j (by omega))
    have hb := zsumZ_bd (f := fun j => (f j).toInt) (c := 4294967296) (by decide) (n := n) (fun j hj => h j (by omega))
    have h2 := h n (by omega)
    show (zsumL f n + f n).toInt = zsumZ _ n + (f n).toInt
    rw [Int64.toInt_add, ih]
    apply Int.bmod_eq_of_le
    · omega
    · omega
theorem zsumZ_pos {f : Nat → Int} : ∀ {n : Nat}, (∀ j, j < n → f j ≤ 0) → zsumZ f n ≤ 0
  | 0, _ => Int.le_refl _
  | n + 1, h => by
    have h1 := zsumZ_pos (n := n) (fun j hj => h j (by omega))
    have h2 := h n (by omega)
    show zsumZ f n + f n ≤ 0
    omega
theorem zsumZ_neg {f : Nat → Int} : ∀ {n : Nat}, (∀ j, j < n → 0 ≤ f j) → 0 ≤ zsumZ f n
  | 0, _ => Int.le_refl _
  | n + 1, h => by
    have h1 := zsumZ_neg (n := n) (fun j hj => h j (by omega))
    have h2 := h n (by omega)
    show 0 ≤ zsumZ f n + f n
    omega
theorem zsumZ_gt {f : Nat → Int} : ∀ {n k : Nat}, (∀ j, j < n → 0 ≤ f j) → k < n → 0 < f k → 0 < zsumZ f n
  | 0, k, _, hk, _ => absurd hk (Nat.not_lt_zero _)
  | n + 1, k, h, hk, hp => by
    show 0 < zsumZ f n + f n
    have h2 := h n (by omega)
    by_cases e : k = n
    · have h1 := zsumZ_neg (n := n) (fun j hj => h j (by omega))
      rw [e] at hp
      omega
    · have h1 := zsumZ_gt (n := n) (k := k) (fun j hj => h j (by omega)) (by omega) hp
      omega
theorem zl_lt (x y : Int64) : x < y ↔ x.toInt < y.toInt := Int64.lt_iff_toInt_lt
theorem zl_eq (x y : Int64) : x = y ↔ x.toInt = y.toInt := Int64.toInt_inj.symm
theorem zi_lt (x y : Int32) : x < y ↔ x.toInt < y.toInt := Int32.lt_iff_toInt_lt
theorem zi_le (x y : Int32) : x ≤ y ↔ x.toInt ≤ y.toInt := Int32.le_iff_toInt_le
theorem zi_eq (x y : Int32) : x = y ↔ x.toInt = y.toInt := Int32.toInt_inj.symm
theorem zl_bd (x : Int32) : -4294967296 ≤ x.toInt64.toInt ∧ x.toInt64.toInt ≤ 4294967296 := by
  rw [zl_toInt]
  have := zi_rng x
  omega
theorem zl_bd2 (c : Bool) (x : Int32) : -4294967296 ≤ (if c = true then (0 : Int64) else x.toInt64).toInt ∧ (if c = true then (0 : Int64) else x.toInt64).toInt ≤ 4294967296 := by
  split
  · decide
  · exact zl_bd x
/-- how many aren't fixed -/
def zcn (st : Nat → Bool) : Nat → Nat
  | 0 => 0
  | n + 1 => zcn st n + if st n = true then 0 else 1
theorem zcn_le {st : Nat → Bool} : ∀ {n : Nat}, zcn st n ≤ n
  | 0 => Nat.le_refl _
  | n + 1 => by
    have := zcn_le (st := st) (n := n)
    show zcn st n + (if st n = true then 0 else 1) ≤ n + 1
    split <;> omega
theorem zcn_mono {s t : Nat → Bool} : ∀ {n : Nat}, (∀ j, j < n → s j = true → t j = true) → zcn t n ≤ zcn s n
  | 0, _ => Nat.le_refl _
  | n + 1, h => by
    have h1 := zcn_mono (n := n) (fun j hj => h j (by omega))
    have h2 := h n (by omega)
    show zcn t n + (if t n = true then 0 else 1) ≤ zcn s n + (if s n = true then 0 else 1)
    by_cases e : s n = true
    · rw [if_pos e, if_pos (h2 e)]; omega
    · rw [if_neg e]; split <;> omega
theorem zcn_lt {s t : Nat → Bool} : ∀ {n k : Nat}, (∀ j, j < n → s j = true → t j = true) → k < n → s k = false → t k = true → zcn t n < zcn s n
  | 0, k, _, hk, _, _ => absurd hk (Nat.not_lt_zero _)
  | n + 1, k, h, hk, hs, ht => by
    show zcn t n + (if t n = true then 0 else 1) < zcn s n + (if s n = true then 0 else 1)
    by_cases e : k = n
    · have h1 := zcn_mono (s := s) (t := t) (n := n) (fun j hj => h j (by omega))
      rw [e] at hs ht
      rw [hs, ht]
      simp
      omega
    · have h1 := zcn_lt (s := s) (t := t) (n := n) (k := k) (fun j hj => h j (by omega)) (by omega) hs ht
      have h2 := h n (by omega)
      by_cases e2 : s n = true
      · rw [if_pos e2, if_pos (h2 e2)]; omega
      · rw [if_neg e2]; split <;> omega
theorem zcn_0 {st : Nat → Bool} : ∀ {n : Nat}, zcn st n = 0 → ∀ j, j < n → st j = true
  | 0, _, j, hj => absurd hj (Nat.not_lt_zero _)
  | n + 1, h, j, hj => by
    have h0 : zcn st n + (if st n = true then 0 else 1) = 0 := h
    by_cases e2 : st n = true
    · rw [if_pos e2] at h0
      by_cases e : j = n
      · rw [e]; exact e2
      · exact zcn_0 (n := n) (by omega) j (by omega)
    · rw [if_neg e2] at h0
      omega
theorem zcn_z {st : Nat → Bool} : ∀ {n : Nat}, (∀ j, j < n → st j = true) → zcn st n = 0
  | 0, _ => rfl
  | n + 1, h => by
    show zcn st n + (if st n = true then 0 else 1) = 0
    rw [zcn_z (fun j hj => h j (by omega)), if_pos (h n (by omega))]
/-- one of those that aren't fixed is fixed next -/
theorem fxFix_some {n : Nat} {dv : Nat → Int32} {st : Nat → Bool} (hn : n ≤ 40) (h : ∃ j, j < n ∧ st j = false) : ∃ j, j < n ∧ st j = false ∧ fxFix (fxSum dv st n) (dv j) = true := by
  have es : (fxSum dv st n).toInt = zsumZ (fun j => (if st j = true then (0 : Int64) else (dv j).toInt64).toInt) n := zsumL_int (by omega) (fun j _ => zl_bd2 (st j) (dv j))
  rcases Classical.em (fxSum dv st n = 0) with h0 | h0
  · obtain ⟨j, h1, h2⟩ := h
    refine ⟨j, h1, h2, ?_⟩
    unfold fxFix
    rw [if_pos h0]
  · rcases Classical.em (0 < fxSum dv st n) with h1 | h1
    · rcases Classical.em (∃ j, j < n ∧ st j = false ∧ 0 < dv j) with ⟨j, a, b, c⟩ | q
      · refine ⟨j, a, b, ?_⟩
        unfold fxFix
        rw [if_neg h0, if_pos h1]
        exact decide_eq_true c
      · exfalso
        have := zsumZ_pos (f := fun j => (if st j = true then (0 : Int64) else (dv j).toInt64).toInt) (n := n) (fun j hj => by
          show (if st j = true then (0 : Int64) else (dv j).toInt64).toInt ≤ 0
          cases e : st j with
          | true => simp
          | false =>
            have q2 : ¬ 0 < dv j := fun z => q ⟨j, hj, e, z⟩
            rw [zi_lt] at q2
            simp [zl_toInt]
            exact Int.not_lt.mp q2)
        rw [zl_lt, es] at h1
        have : (0 : Int64).toInt = 0 := rfl
        omega
    · rcases Classical.em (∃ j, j < n ∧ st j = false ∧ dv j < 0) with ⟨j, a, b, c⟩ | q
      · refine ⟨j, a, b, ?_⟩
        unfold fxFix
        rw [if_neg h0, if_neg h1]
        exact decide_eq_true c
      · exfalso
        have := zsumZ_neg (f := fun j => (if st j = true then (0 : Int64) else (dv j).toInt64).toInt) (n := n) (fun j hj => by
          show 0 ≤ (if st j = true then (0 : Int64) else (dv j).toInt64).toInt
          cases e : st j with
          | true => simp
          | false =>
            have q2 : ¬ dv j < 0 := fun z => q ⟨j, hj, e, z⟩
            rw [zi_lt] at q2
            simp [zl_toInt]
            exact Int.not_lt.mp q2)
        rw [zl_lt, es] at h1
        rw [zl_eq, es] at h0
        have : (0 : Int64).toInt = 0 := rfl
        omega
section
variable {n : Nat} {gr : Bool} {room : Int32} {bs lo hi fac : Nat → Int32} {s : (Nat → Int32) × (Nat → Bool)}
theorem fxRound_st {j : Nat} (h : s.2 j = true) : (fxRound n gr room bs lo hi fac s).2 j = true := by
  show (s.2 j || _) = true
  rw [h, Bool.true_or]
theorem fxRound_sz {j : Nat} (h : s.2 j = true) : (fxRound n gr room bs lo hi fac s).1 j = s.1 j := by
  show (if s.2 j = false ∧ _ then _ else _) = _
  rw [if_neg]
  rw [h]
  rintro ⟨q, _⟩
  cases q
theorem fxRound_less (hn : n ≤ 40) (h : ∃ j, j < n ∧ s.2 j = false) : zcn (fxRound n gr room bs lo hi fac s).2 n < zcn s.2 n := by
  obtain ⟨j, h1, h2, h3⟩ := fxFix_some (dv := fxDev lo hi (fxP gr (fxAmt gr (fxRest room bs s.1 s.2 n)).toInt64 (fxOpen fac s.2 n) bs fac s.2)) hn h
  refine zcn_lt (fun i _ q => fxRound_st q) h1 h2 ?_
  show (s.2 j || fxFix _ _) = true
  rw [h3, Bool.or_true]
theorem fxIt_cnt (hn : n ≤ 40) : ∀ k : Nat, zcn (fxIt n gr room bs lo hi fac s k).2 n ≤ n - k
  | 0 => zcn_le
  | k + 1 => by
    have ih := fxIt_cnt hn k
    show zcn (fxRound n gr room bs lo hi fac (fxIt n gr room bs lo hi fac s k)).2 n ≤ n - (k + 1)
    rcases Classical.em (∃ j, j < n ∧ (fxIt n gr room bs lo hi fac s k).2 j = false) with h | h
    · have := fxRound_less (gr := gr) (room := room) (bs := bs) (lo := lo) (hi := hi) (fac := fac) hn h
      omega
    · rw [zcn_z (fun j hj => fxRound_st (by
        cases e : (fxIt n gr room bs lo hi fac s k).2 j with
        | true => rfl
        | false => exact absurd ⟨j, hj, e⟩ h))]
      omega
theorem fxIt_all (hn : n ≤ 40) {k : Nat} (hk : n ≤ k) : ∀ j, j < n → (fxIt n gr room bs lo hi fac s k).2 j = true := zcn_0 (by have := fxIt_cnt (gr := gr) (room := room) (bs := bs) (lo := lo) (hi := hi) (fac := fac) (s := s) hn k; omega)
theorem fxIt_stay {k : Nat} (h : ∀ j, j < n → (fxIt n gr room bs lo hi fac s k).2 j = true) : ∀ i : Nat, ∀ j, j < n → (fxIt n gr room bs lo hi fac s (k + i)).2 j = true ∧ (fxIt n gr room bs lo hi fac s (k + i)).1 j = (fxIt n gr room bs lo hi fac s k).1 j
  | 0, j, hj => ⟨h j hj, rfl⟩
  | i + 1, j, hj => by
    obtain ⟨h1, h2⟩ := fxIt_stay h i j hj
    exact ⟨fxRound_st h1, (fxRound_sz h1).trans h2⟩
/-- the end does not depend on how many rounds more -/
theorem fxIt_end (hn : n ≤ 40) {k : Nat} (h : ∀ j, j < n → (fxIt n gr room bs lo hi fac s k).2 j = true) {j : Nat} (hj : j < n) : (fxIt n gr room bs lo hi fac s n).1 j = (fxIt n gr room bs lo hi fac s k).1 j := by
  rcases Nat.le_total k n with q | q
  · have := (fxIt_stay h (n - k) j hj).2
    rw [show k + (n - k) = n by omega] at this
    exact this
  · have := (fxIt_stay (gr := gr) (room := room) (bs := bs) (lo := lo) (hi := hi) (fac := fac) (s := s) (fxIt_all hn (Nat.le_refl n)) (k - n) j hj).2
    rw [show n + (k - n) = k by omega] at this
    exact this.symm
theorem fxIt_nz (h : ∀ j, j < n → s.2 j = false → fac j ≠ 0) : ∀ (k j : Nat), j < n → (fxIt n gr room bs lo hi fac s k).2 j = false → fac j ≠ 0
  | 0, j, hj, q => h j hj q
  | k + 1, j, hj, q => by
    have q2 : ((fxIt n gr room bs lo hi fac s k).2 j || _) = false := q
    exact fxIt_nz h k j hj (Bool.or_eq_false_iff.mp q2).1
end
theorem fxOpen_pos {n : Nat} {fac : Nat → Int32} {st : Nat → Bool} (hn : n ≤ 40) (hf : ∀ j, j < n → 0 ≤ fac j) (hz : ∀ j, j < n → st j = false → fac j ≠ 0) : (0 < fxOpen fac st n) ↔ ∃ j, j < n ∧ st j = false := by
  have es : (fxOpen fac st n).toInt = zsumZ (fun j => (if st j = true then (0 : Int64) else (fac j).toInt64).toInt) n := zsumL_int (by omega) (fun j _ => zl_bd2 (st j) (fac j))
  have h0 : (0 : Int64).toInt = 0 := rfl
  have hnn : ∀ j, j < n → 0 ≤ (if st j = true then (0 : Int64) else (fac j).toInt64).toInt := fun j hj => by
    cases e : st j with
    | true => simp
    | false =>
      have := (zi_le _ _).mp (hf j hj)
      simp [zl_toInt]
      exact this
  constructor
  · intro h
    rcases Classical.em (∃ j, j < n ∧ st j = false) with q | q
    · exact q
    · exfalso
      have := zsumZ_pos (f := fun j => (if st j = true then (0 : Int64) else (fac j).toInt64).toInt) (n := n) (fun j hj => by
        cases e : st j with
        | true => simp
        | false => exact absurd ⟨j, hj, e⟩ q)
      rw [zl_lt, es] at h
      omega
  · rintro ⟨k, hk, e⟩
    have hp : 0 < (fac k).toInt := by
      have h1 := (zi_le _ _).mp (hf k hk)
      have h2 := hz k hk e
      rw [Ne, zi_eq] at h2
      have h3 : (0 : Int32).toInt = 0 := rfl
      omega
    have := zsumZ_gt (f := fun j => (if st j = true then (0 : Int64) else (fac j).toInt64).toInt) (n := n) (k := k) hnn hk (by
      show 0 < (if st k = true then (0 : Int64) else (fac k).toInt64).toInt
      rw [if_neg (by rw [e]; decide), zl_toInt]
      exact hp)
    rw [zl_lt, es]
    omega
/-! the class's rows against the rounds -/
def zfacM (I : Nat → Nat → Int32) (fac : Nat → Int32) (st : Nat → Bool) (n : Nat) : Nat → Nat → Int32 := fun a j => if j < n ∧ a = 91 then fac j else if j < n ∧ a = 94 then zB (st j) else I a j
theorem zfacM_0 (I : Nat → Nat → Int32) (fac : Nat → Int32) (st : Nat → Bool) : zfacM I fac st 0 = I := by
  funext a j
  unfold zfacM
  rw [if_neg (fun q => Nat.not_lt_zero _ q.1), if_neg (fun q => Nat.not_lt_zero _ q.1)]
theorem zfacM_s (I : Nat → Nat → Int32) (fac : Nat → Int32) (st : Nat → Bool) {n : Nat} {v : Int32} (hv : v = zB (st n)) : z_u (z_u (zfacM I fac st n) 91 n (fac n)) 94 n v = zfacM I fac st (n + 1) := by
  subst hv
  funext a j
  unfold z_u zfacM
  by_cases e : j = n
  · subst e
    by_cases h2 : a = 91
    · simp [h2]
    · by_cases h3 : a = 94
      · simp [h3]
      · simp [h2, h3]
  · have e2 : (j < n + 1) = (j < n) := by apply propext; omega
    simp [e, e2]
theorem zfacM_o (I : Nat → Nat → Int32) (fac : Nat → Int32) (st : Nat → Bool) {n a j : Nat} (h1 : a ≠ 91) (h2 : a ≠ 94) : zfacM I fac st n a j = I a j := by
  unfold zfacM
  rw [if_neg (fun q => h1 q.2), if_neg (fun q => h2 q.2)]
/-- the memory is at a round -/
def fxRel (n : Nat) (I Ir : Nat → Nat → Int32) (fac : Nat → Int32) (s : (Nat → Int32) × (Nat → Bool)) : Prop := (∀ a j, a ≠ 91 → a ≠ 92 → a ≠ 93 → a ≠ 94 → Ir a j = I a j) ∧ ∀ j, j < n → Ir 91 j = fac j ∧ zst Ir j = s.2 j ∧ (s.2 j = true → Ir 92 j = s.1 j)
theorem fxOpen_congr {f1 f2 : Nat → Int32} {s1 s2 : Nat → Bool} {n : Nat} (h : ∀ j, j < n → f1 j = f2 j ∧ s1 j = s2 j) : fxOpen f1 s1 n = fxOpen f2 s2 n := zsumL_congr (fun j hj => by rw [(h j hj).1, (h j hj).2])
theorem fxRel_open {n : Nat} {I Ir : Nat → Nat → Int32} {fac : Nat → Int32} {s : (Nat → Int32) × (Nat → Bool)} (h : fxRel n I Ir fac s) {k : Nat} (hk : k ≤ n) : fxOpen (Ir 91) (zst Ir) k = fxOpen fac s.2 k := fxOpen_congr (fun j hj => ⟨(h.2 j (by omega)).1, (h.2 j (by omega)).2.1⟩)
theorem fxRel_rest {n : Nat} {I Ir : Nat → Nat → Int32} {fac : Nat → Int32} {s : (Nat → Int32) × (Nat → Bool)} (h : fxRel n I Ir fac s) {room : Int32} : fxRest room (Ir 86) (Ir 92) (zst Ir) n = fxRest room (I 86) s.1 s.2 n := zfsub_congr (fun j hj => by
  obtain ⟨h1, h2, h3⟩ := h.2 j hj
  rw [h2]
  cases e : s.2 j with
  | true => simp [h3 e]
  | false => simp [h.1 86 j (by decide) (by decide) (by decide) (by decide)])
theorem fxRel_step {n : Nat} {I Ir : Nat → Nat → Int32} {fac : Nat → Int32} {s : (Nat → Int32) × (Nat → Bool)} {gr : Bool} {room : Int32} (h : fxRel n I Ir fac s) {p : Nat → Int32}
    (hp : p = fxP gr (fxAmt gr (fxRest room (Ir 86) (Ir 92) (zst Ir) n)).toInt64 (fxOpen (Ir 91) (zst Ir) n) (Ir 86) (Ir 91) (zst Ir)) :
    fxRel n I (zsetl (zprop Ir p (fxDev (Ir 87) (Ir 88) p) n) (fxSum (fxDev (Ir 87) (Ir 88) p) (zst Ir) n) n) fac (fxRound n gr room (I 86) (I 87) (I 88) fac s) := by
  have ep : ∀ j, j < n → p j = fxP gr (fxAmt gr (fxRest room (I 86) s.1 s.2 n)).toInt64 (fxOpen fac s.2 n) (I 86) fac s.2 j := fun j hj => by
    rw [hp, fxRel_rest h]
    unfold fxP fxPart
    rw [fxRel_open h (Nat.le_refl n), fxRel_open h (show j ≤ n by omega), fxRel_open h (show j + 1 ≤ n by omega), h.1 86 j (by decide) (by decide) (by decide) (by decide)]
  have ed : ∀ j, j < n → fxDev (Ir 87) (Ir 88) p j = fxDev (I 87) (I 88) (fxP gr (fxAmt gr (fxRest room (I 86) s.1 s.2 n)).toInt64 (fxOpen fac s.2 n) (I 86) fac s.2) j := fun j hj => by
    unfold fxDev
    rw [ep j hj, h.1 87 j (by decide) (by decide) (by decide) (by decide), h.1 88 j (by decide) (by decide) (by decide) (by decide)]
  have es : fxSum (fxDev (Ir 87) (Ir 88) p) (zst Ir) n = fxSum (fxDev (I 87) (I 88) (fxP gr (fxAmt gr (fxRest room (I 86) s.1 s.2 n)).toInt64 (fxOpen fac s.2 n) (I 86) fac s.2)) s.2 n := zsumL_congr (fun j hj => by rw [ed j hj, (h.2 j hj).2.1])
  generalize hq : fxP gr (fxAmt gr (fxRest room (I 86) s.1 s.2 n)).toInt64 (fxOpen fac s.2 n) (I 86) fac s.2 = q at ep ed es
  generalize hd : fxDev (I 87) (I 88) q = dv at ed es
  have z0 : ∀ j, zst (zprop Ir p (fxDev (Ir 87) (Ir 88) p) n) j = zst Ir j := fun j => by
    unfold zst
    rw [zprop_o _ _ _ (by decide) (by decide)]
  refine ⟨fun a j h1 h2 h3 h4 => ?_, fun j hj => ?_⟩
  · rw [zsetl_o _ _ h2 h4, zprop_o _ _ _ h2 h3]
    exact h.1 a j h1 h2 h3 h4
  · obtain ⟨h1, h2, h3⟩ := h.2 j hj
    have er2 : (fxRound n gr room (I 86) (I 87) (I 88) fac s).2 j = (s.2 j || fxFix (fxSum dv s.2 n) (dv j)) := by
      show (s.2 j || fxFix (fxSum (fxDev _ _ (fxP _ _ _ _ _ _)) _ _) (fxDev _ _ (fxP _ _ _ _ _ _) j)) = _
      rw [hq, hd]
    have er1 : (fxRound n gr room (I 86) (I 87) (I 88) fac s).1 j = if s.2 j = false ∧ fxFix (fxSum dv s.2 n) (dv j) = true then q j + dv j else s.1 j := by
      show (if s.2 j = false ∧ fxFix (fxSum (fxDev _ _ (fxP _ _ _ _ _ _)) _ _) (fxDev _ _ (fxP _ _ _ _ _ _) j) = true then _ else _) = _
      rw [hq, hd]
    refine ⟨?_, ?_, ?_⟩
    · rw [zsetl_o _ _ (by decide) (by decide), zprop_o _ _ _ (by decide) (by decide)]
      exact h1
    · rw [er2, es]
      unfold zst zsetl
      rw [z0, h2]
      cases e : s.2 j with
      | true =>
        rw [e] at h2
        simp
        rw [zprop_o _ _ _ (by decide) (by decide)]
        unfold zst at h2
        simpa using h2
      | false =>
        rw [e] at h2
        have e93 : zprop Ir p (fxDev (Ir 87) (Ir 88) p) n 93 j = dv j := by
          unfold zprop
          rw [if_pos ⟨hj, h2⟩, if_neg (by decide), if_pos rfl, ed j hj]
        rw [e93]
        cases ef : fxFix (fxSum dv s.2 n) (dv j) with
        | true => simp [hj]
        | false =>
          simp
          rw [zprop_o _ _ _ (by decide) (by decide)]
          unfold zst at h2
          simpa using h2
    · rw [er2, er1, es]
      intro hs
      unfold zsetl
      rw [z0, h2]
      cases e : s.2 j with
      | true =>
        rw [e] at h2
        simp
        unfold zprop
        rw [if_neg (by rw [h2]; simp)]
        exact h3 e
      | false =>
        rw [e] at h2 hs
        have e93 : zprop Ir p (fxDev (Ir 87) (Ir 88) p) n 93 j = dv j := by
          unfold zprop
          rw [if_pos ⟨hj, h2⟩, if_neg (by decide), if_pos rfl, ed j hj]
        have e92 : zprop Ir p (fxDev (Ir 87) (Ir 88) p) n 92 j = q j := by
          unfold zprop
          rw [if_pos ⟨hj, h2⟩, if_pos rfl, ep j hj]
        rw [Bool.false_or] at hs
        rw [e93, e92, hs]
        simp [hj]
end ZFP
