section ZMF
/-! the model's arithmetic of FLEXING: nothing overflows -/
theorem zsum_int {f : Nat → Int32} : ∀ {n : Nat}, n ≤ 100 → (∀ j, j < n → -20000 ≤ (f j).toInt ∧ (f j).toInt ≤ 20000) → (zsum f n).toInt = zsumZ (fun j => (f j).toInt) n ∧ -(n * 20000 : Int) ≤ (zsum f n).toInt ∧ (zsum f n).toInt ≤ n * 20000
  | 0, _, _ => ⟨rfl, (by decide : -(((0 : Nat) : Int) * 20000) ≤ 0), (by decide : (0 : Int) ≤ ((0 : Nat) : Int) * 20000)⟩
  | n + 1, hn, h => by
    obtain ⟨e, b1, b2⟩ := zsum_int (f := f) (n := n) (by omega) (fun j hj => h j (by omega))
    have q := h n (by omega)
    have s : (zsum f (n + 1)).toInt = (zsum f n).toInt + (f n).toInt := by
      show (zsum f n + f n).toInt = _
      rw [Int32.toInt_add]
      apply Int.bmod_eq_of_le <;> omega
    refine ⟨?_, ?_, ?_⟩
    · rw [s, e]; rfl
    · rw [s]; omega
    · rw [s]; omega
theorem zfsub_int {r : Int32} (hr : -10000000 ≤ r.toInt ∧ r.toInt ≤ 10000000) {f : Nat → Int32} : ∀ {n : Nat}, n ≤ 100 → (∀ j, j < n → -20000 ≤ (f j).toInt ∧ (f j).toInt ≤ 20000) → (zfsub r f n).toInt = r.toInt - zsumZ (fun j => (f j).toInt) n ∧ -(n * 20000 : Int) ≤ zsumZ (fun j => (f j).toInt) n ∧ zsumZ (fun j => (f j).toInt) n ≤ n * 20000
  | 0, _, _ => ⟨(Int.sub_zero _).symm, (by decide : -(((0 : Nat) : Int) * 20000) ≤ 0), (by decide : (0 : Int) ≤ ((0 : Nat) : Int) * 20000)⟩
  | n + 1, hn, h => by
    obtain ⟨e, b1, b2⟩ := zfsub_int hr (f := f) (n := n) (by omega) (fun j hj => h j (by omega))
    have q := h n (by omega)
    have s : (zfsub r f (n + 1)).toInt = (zfsub r f n).toInt - (f n).toInt := by
      show (zfsub r f n - f n).toInt = _
      rw [Int32.toInt_sub]
      apply Int.bmod_eq_of_le <;> omega
    have z : zsumZ (fun j => (f j).toInt) (n + 1) = zsumZ (fun j => (f j).toInt) n + (f n).toInt := rfl
    refine ⟨?_, ?_, ?_⟩
    · rw [s, e, z]; omega
    · rw [z]; omega
    · rw [z]; omega
theorem zsumZ_add {f g h : Nat → Int} : ∀ {n : Nat}, (∀ j, j < n → h j = f j + g j) → zsumZ h n = zsumZ f n + zsumZ g n
  | 0, _ => rfl
  | n + 1, q => by
    show zsumZ h n + h n = zsumZ f n + f n + (zsumZ g n + g n)
    rw [zsumZ_add (fun j hj => q j (by omega)), q n (by omega)]
    omega
/-- sizes stay within the limits -/
theorem fxIt_rng {n : Nat} {gr : Bool} {room : Int32} {bs lo hi fac : Nat → Int32} {s : (Nat → Int32) × (Nat → Bool)} {j : Nat} (hs : 0 ≤ (s.1 j).toInt ∧ (s.1 j).toInt ≤ 10000) (hl : 0 ≤ (lo j).toInt ∧ (lo j).toInt ≤ 1000) (hh : 0 ≤ (hi j).toInt ∧ (hi j).toInt ≤ 10000) : ∀ k, 0 ≤ ((fxIt n gr room bs lo hi fac s k).1 j).toInt ∧ ((fxIt n gr room bs lo hi fac s k).1 j).toInt ≤ 10000
  | 0 => hs
  | k + 1 => by
    have ih := fxIt_rng (n := n) (gr := gr) (room := room) (bs := bs) (fac := fac) hs hl hh k
    show 0 ≤ ((fxRound n gr room bs lo hi fac (fxIt n gr room bs lo hi fac s k)).1 j).toInt ∧ ((fxRound n gr room bs lo hi fac (fxIt n gr room bs lo hi fac s k)).1 j).toInt ≤ 10000
    unfold fxRound
    dsimp only
    split
    · unfold fxDev
      rw [Int32.add_comm, Int32.sub_add_cancel]
      exact zlim_rng hl hh
    · exact ih
end ZMF
