section ZMF
/-! the model's arithmetic of FLEXING: nothing overflows -/
theorem zsum_int {f : Nat → Int32} : ∀ {n : Nat}, n ≤ 100 → (∀ j, j < n → -20000 ≤ (f j).toInt ∧ (f j).toInt ≤ 20000) → (zsum f n).toInt = zsumZ (fun j => (f j).toInt) n ∧ -(n * 20000 : Int) ≤ (zsum f n).toInt ∧ (zsum f n).toInt ≤ n * 20000
  | 0, _, _ => ⟨rfl, (by decide : -(((0 : Nat) : Int) * 20000) ≤ 0), (by decide : (0 : Int) ≤ ((0 : Nat) : Int) * 20000)⟩
  | n + 1, hn, h => by
    obtain ⟨e, b1, b2⟩ := zsum_int (f := f) (n := n) (by omega) (fun j hj => h j (by omega))
    have q := h n (by omega)
    have s : (zsum f (n + 1)).toInt = (zsum f n).toInt + (f n).toInt := by
      show (zsum f n + f n).toInt = _
      rw [Int32.toInt_add]
      apply Int.bmod_eq_of_le <;> omega
    refine ⟨?_, ?_, ?_⟩
    · rw [s, e]; rfl
    · rw [s]; omega
    · rw [s]; omega
theorem zfsub_int {r : Int32} (hr : -10000000 ≤ r.toInt ∧ r.toInt ≤ 10000000) {f : Nat → Int32} : ∀ {n : Nat}, n ≤ 100 → (∀ j, j < n → -20000 ≤ (f j).toInt ∧ (f j).toInt ≤ 20000) → (zfsub r f n).toInt = r.toInt - zsumZ (fun j => (f j).toInt) n ∧ -(n * 20000 : Int) ≤ zsumZ (fun j => (f j).toInt) n ∧ zsumZ (fun j => (f j).toInt) n ≤ n * 20000
  | 0, _, _ => ⟨(Int.sub_zero _).symm, (by decide : -(((0 : Nat) : Int) * 20000) ≤ 0), (by decide : (0 : Int) ≤ ((0 : Nat) : Int) * 20000)⟩
  | n + 1, hn, h => by
    obtain ⟨e, b1, b2⟩ := zfsub_int hr (f := f) (n := n) (by omega) (fun j hj => h j (by omega))
    have q := h n (by omega)
    have s : (zfsub r f (n + 1)).toInt = (zfsub r f n).toInt - (f n).toInt := by
      show (zfsub r f n - f n).toInt = _
      rw [Int32.toInt_sub]
      apply Int.bmod_eq_of_le <;> omega
    have z : zsumZ (fun j => (f j).toInt) (n + 1) = zsumZ (fun j => (f j).toInt) n + (f n).toInt := rfl
    refine ⟨?_, ?_, ?_⟩
    · rw [s, e, z]; omega
    · rw [z]; omega
    · rw [z]; omega
/-- long, less the f j in turn -/
def zlsub (r : Int64) (f : Nat → Int32) : Nat → Int64
  | 0 => r
  | n + 1 => zlsub r f n - (f n).toInt64
theorem zlsub_int {r : Int64} (hr : -10000000 ≤ r.toInt ∧ r.toInt ≤ 10000000) {f : Nat → Int32} : ∀ {n : Nat}, n ≤ 100 → (∀ j, j < n → -20000 ≤ (f j).toInt ∧ (f j).toInt ≤ 20000) → (zlsub r f n).toInt = r.toInt - zsumZ (fun j => (f j).toInt) n ∧ -(n * 20000 : Int) ≤ zsumZ (fun j => (f j).toInt) n ∧ zsumZ (fun j => (f j).toInt) n ≤ n * 20000
  | 0, _, _ => ⟨(Int.sub_zero _).symm, (by decide : -(((0 : Nat) : Int) * 20000) ≤ 0), (by decide : (0 : Int) ≤ ((0 : Nat) : Int) * 20000)⟩
  | n + 1, hn, h => by
    obtain ⟨e, b1, b2⟩ := zlsub_int hr (f := f) (n := n) (by omega) (fun j hj => h j (by omega))
    have q := h n (by omega)
    have s : (zlsub r f (n + 1)).toInt = (zlsub r f n).toInt - (f n).toInt := by
      show (zlsub r f n - (f n).toInt64).toInt = _
      rw [Int64.toInt_sub, zl_toInt]
      apply Int.bmod_eq_of_le <;> omega
    have z : zsumZ (fun j => (f j).toInt) (n + 1) = zsumZ (fun j => (f j).toInt) n + (f n).toInt := rfl
    refine ⟨?_, ?_, ?_⟩
    · rw [s, e, z]; omega
    · rw [z]; omega
    · rw [z]; omega
theorem zsumZ_add {f g h : Nat → Int} : ∀ {n : Nat}, (∀ j, j < n → h j = f j + g j) → zsumZ h n = zsumZ f n + zsumZ g n
  | 0, _ => rfl
  | n + 1, q => by
    show zsumZ h n + h n = zsumZ f n + f n + (zsumZ g n + g n)
    rw [zsumZ_add (fun j hj => q j (by omega)), q n (by omega)]
    omega
/-- the model's rest is the document's -/
theorem zrest {n : Nat} (hn : n ≤ 40) {sp gp : Int32} (hs : 0 ≤ sp.toInt ∧ sp.toInt ≤ 10000) (hg : 0 ≤ gp.toInt ∧ gp.toInt ≤ 100000) {m x y : Nat → Int32} (hm : ∀ j, j < n → 0 ≤ (m j).toInt ∧ (m j).toInt ≤ 100) (hx : ∀ j, j < n → 0 ≤ (x j).toInt ∧ (x j).toInt ≤ 10000) (hy : ∀ j, j < n → y j = m j + x j) : zlsub (sp - gp).toInt64 y n = (zfsub (sp - zsum m n - gp) x n).toInt64 := by
  have e0 : (sp - gp).toInt = sp.toInt - gp.toInt := by
    rw [Int32.toInt_sub]
    apply Int.bmod_eq_of_le <;> omega
  have yi : ∀ j, j < n → (y j).toInt = (m j).toInt + (x j).toInt := fun j hj => by
    have := hm j hj
    have := hx j hj
    rw [hy j hj, Int32.toInt_add]
    apply Int.bmod_eq_of_le <;> omega
  have a := zsum_int (f := m) (n := n) (by omega) (fun j hj => by have := hm j hj; omega)
  have e1 : (sp - zsum m n).toInt = sp.toInt - (zsum m n).toInt := by
    rw [Int32.toInt_sub]
    apply Int.bmod_eq_of_le <;> omega
  have e2 : (sp - zsum m n - gp).toInt = sp.toInt - (zsum m n).toInt - gp.toInt := by
    rw [Int32.toInt_sub, e1]
    apply Int.bmod_eq_of_le <;> omega
  have b := zfsub_int (r := sp - zsum m n - gp) (by rw [e2]; omega) (f := x) (n := n) (by omega) (fun j hj => by have := hx j hj; omega)
  have c := zlsub_int (r := (sp - gp).toInt64) (by rw [zl_toInt, e0]; omega) (f := y) (n := n) (by omega) (fun j hj => by have := hm j hj; have := hx j hj; have := yi j hj; omega)
  have d := zsumZ_add (f := fun j => (m j).toInt) (g := fun j => (x j).toInt) (h := fun j => (y j).toInt) (n := n) yi
  rw [zl_eq, zl_toInt, c.1, zl_toInt, b.1, e0, e2, d, a.1]
  omega
/-- .. and so is whether they grow -/
theorem zgrow {n : Nat} (hn : n ≤ 40) {sp gp : Int32} (hs : 0 ≤ sp.toInt ∧ sp.toInt ≤ 10000) (hg : 0 ≤ gp.toInt ∧ gp.toInt ≤ 100000) {m x y : Nat → Int32} (hm : ∀ j, j < n → 0 ≤ (m j).toInt ∧ (m j).toInt ≤ 100) (hx : ∀ j, j < n → 0 ≤ (x j).toInt ∧ (x j).toInt ≤ 10000) (hy : ∀ j, j < n → y j = x j + m j) : (gp + zsum y n < sp) ↔ (zsum x n < sp - zsum m n - gp) := by
  have yi : ∀ j, j < n → (y j).toInt = (x j).toInt + (m j).toInt := fun j hj => by
    have := hm j hj
    have := hx j hj
    rw [hy j hj, Int32.toInt_add]
    apply Int.bmod_eq_of_le <;> omega
  have a := zsum_int (f := m) (n := n) (by omega) (fun j hj => by have := hm j hj; omega)
  have b := zsum_int (f := x) (n := n) (by omega) (fun j hj => by have := hx j hj; omega)
  have c := zsum_int (f := y) (n := n) (by omega) (fun j hj => by have := hm j hj; have := hx j hj; have := yi j hj; omega)
  have d := zsumZ_add (f := fun j => (x j).toInt) (g := fun j => (m j).toInt) (h := fun j => (y j).toInt) (n := n) yi
  have e1 : (sp - zsum m n).toInt = sp.toInt - (zsum m n).toInt := by
    rw [Int32.toInt_sub]
    apply Int.bmod_eq_of_le <;> omega
  have e2 : (sp - zsum m n - gp).toInt = sp.toInt - (zsum m n).toInt - gp.toInt := by
    rw [Int32.toInt_sub, e1]
    apply Int.bmod_eq_of_le <;> omega
  have e3 : (gp + zsum y n).toInt = gp.toInt + (zsum y n).toInt := by
    rw [Int32.toInt_add]
    apply Int.bmod_eq_of_le <;> omega
  rw [zi_lt, zi_lt, e2, e3]
  omega
/-- sizes stay within the limits -/
theorem fxIt_rng {n : Nat} {gr : Bool} {room : Int32} {bs lo hi fac : Nat → Int32} {s : (Nat → Int32) × (Nat → Bool)} {j : Nat} (hs : 0 ≤ (s.1 j).toInt ∧ (s.1 j).toInt ≤ 10000) (hl : 0 ≤ (lo j).toInt ∧ (lo j).toInt ≤ 1000) (hh : 0 ≤ (hi j).toInt ∧ (hi j).toInt ≤ 10000) : ∀ k, 0 ≤ ((fxIt n gr room bs lo hi fac s k).1 j).toInt ∧ ((fxIt n gr room bs lo hi fac s k).1 j).toInt ≤ 10000
  | 0 => hs
  | k + 1 => by
    have ih := fxIt_rng (n := n) (gr := gr) (room := room) (bs := bs) (fac := fac) hs hl hh k
    show 0 ≤ ((fxRound n gr room bs lo hi fac (fxIt n gr room bs lo hi fac s k)).1 j).toInt ∧ ((fxRound n gr room bs lo hi fac (fxIt n gr room bs lo hi fac s k)).1 j).toInt ≤ 10000
    unfold fxRound
    dsimp only
    split
    · unfold fxDev
      rw [Int32.add_comm, Int32.sub_add_cancel]
      exact zlim_rng hl hh
    · exact ih
end ZMF
