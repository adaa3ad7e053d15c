section ZT4
/-! places: START, then END; overflow -/
def qJ (q : tP) (j r : Int32) : tP := ((tW q, tG q, tA q, j, r), q.2)
def tEn (m : Nat) (q : tP) : Nat → Int32
  | 0 => tA q
  | k + 1 => tX m q k + tF m q k + tM q k
theorem sJu_0 (fr : Int32) (k m : Nat) : sJu 0 fr k m = 0 := by
  unfold sJu
  by_cases c : fr ≤ 0
  · rw [if_pos c]
  · rw [if_neg c, if_neg (by decide), if_neg (by decide), if_neg (by decide), if_neg (by decide)]
theorem sJu_1 (fr : Int32) (k m : Nat) : sJu 1 fr k m = if fr ≤ 0 then 0 else fr := by
  unfold sJu
  by_cases c : fr ≤ 0
  · rw [if_pos c, if_pos c]
  · rw [if_neg c, if_neg c, if_pos rfl]
theorem z32_d (x : Int32) : 2 * x = x + x := by
  rw [show (2 : Int32) = 1 + 1 from rfl, Int32.add_mul, Int32.one_mul]
section
variable {m : Nat} {q : tP}
theorem tX_0 (hJ : tJ q = 0) : tX m q 0 = tA q + 0 + tM q 0 := by
  unfold tX
  rw [hJ, sJu_0]
  show 0 + tA q + (0 + 0 + tM q 0) = tA q + 0 + tM q 0
  rw [Int32.zero_add, Int32.zero_add, Int32.zero_add, Int32.add_zero]
theorem tX_s (hJ : tJ q = 0) (k : Nat) : tX m q (k + 1) = tEn m q (k + 1) + tG q + tM q (k + 1) := by
  show tX m q (k + 1) = tX m q k + tF m q k + tM q k + tG q + tM q (k + 1)
  unfold tX
  rw [hJ, sJu_0, sJu_0]
  show 0 + tA q + (zsum (fun j => tF m q j + 2 * tM q j + tG q) k + (tF m q k + 2 * tM q k + tG q) + 0 + tM q (k + 1)) = 0 + tA q + (zsum (fun j => tF m q j + 2 * tM q j + tG q) k + 0 + tM q k) + tF m q k + tM q k + tG q + tM q (k + 1)
  rw [z32_d]
  generalize zsum (fun j => tF m q j + 2 * tM q j + tG q) k = s
  generalize tF m q k = f
  generalize tM q k = a
  generalize tM q (k + 1) = b
  generalize tA q = c
  generalize tG q = d
  grind
theorem tX_J (hJ : tJ q = 0) (r : Int32) (i : Nat) : tX m (qJ q 1 r) i = tX m q i + sJu 1 (tFr m q) i m := by
  show 0 + tA q + (zsum (fun j => tF m q j + 2 * tM q j + tG q) i + sJu 1 (tFr m q) i m + tM q i) = 0 + tA q + (zsum (fun j => tF m q j + 2 * tM q j + tG q) i + sJu (tJ q) (tFr m q) i m + tM q i) + sJu 1 (tFr m q) i m
  rw [hJ, sJu_0]
  generalize zsum (fun j => tF m q j + 2 * tM q j + tG q) i = s
  generalize sJu 1 (tFr m q) i m = f
  generalize tM q i = b
  generalize tA q = c
  grind
theorem tFr_int (hO : tOk m q) (h1 : 1 ≤ m) (h2 : m ≤ 39) : (tFr m q).toInt = (tIn q).toInt - (zsumZ (fun j => (tF m q j).toInt) m + zsumZ (fun j => (2 * tM q j).toInt) m) - (tGp m q).toInt := by
  have g := tGp_rng hO h1 h2
  have i := tIn_int hO
  have ow := hO.1
  have oa := hO.2.2.1
  have s := tsum_int hO h2 (f := tF m q) (fun j hj => tF_rng hO h1 h2 hj) (Nat.le_refl m)
  have e1 : (tIn q - zsum (fun j => tF m q j + 2 * tM q j) m).toInt = (tIn q).toInt - (zsumZ (fun j => (tF m q j).toInt) m + zsumZ (fun j => (2 * tM q j).toInt) m) := by
    rw [Int32.toInt_sub, s.1]
    apply Int.bmod_eq_of_le <;> omega
  unfold tFr
  rw [zgap_1 h1 (by omega)]
  show (tIn q - zsum (fun j => tF m q j + 2 * tM q j) m - tGp m q).toInt = _
  rw [Int32.toInt_sub, e1]
  apply Int.bmod_eq_of_le <;> omega
/-- END moves by what is free -/
theorem tMv (hO : tOk m q) (h1 : 1 ≤ m) (h2 : m ≤ 39) (i : Nat) : sJu 1 (tFr m q) i m = if tUs m q m < tIn q + 2 * tA q then tIn q + 2 * tA q - tUs m q m else 0 := by
  have f := tFr_int hO h1 h2
  have u := tUs_int hO h1 h2 (Nat.le_refl m)
  have s := tsum_int hO h2 (f := tF m q) (fun j hj => tF_rng hO h1 h2 hj) (Nat.le_refl m)
  have g := tGp_rng hO h1 h2
  have x := tIn_int hO
  have a2 := tA2 hO
  have oa := hO.2.2.1
  have ow := hO.1
  have z0 : (0 : Int32).toInt = 0 := rfl
  have ei : (tIn q + 2 * tA q).toInt = (tIn q).toInt + 2 * (tA q).toInt := by
    rw [Int32.toInt_add, a2]
    apply Int.bmod_eq_of_le <;> omega
  have ed : (tIn q + 2 * tA q - tUs m q m).toInt = (tIn q).toInt + 2 * (tA q).toInt - (tUs m q m).toInt := by
    rw [Int32.toInt_sub, ei]
    apply Int.bmod_eq_of_le <;> omega
  rw [sJu_1]
  by_cases c : tUs m q m < tIn q + 2 * tA q
  · have c' := c
    rw [zi_lt, ei] at c'
    rw [if_pos c, if_neg (fun z => by
      rw [zi_le, z0] at z
      omega), zi_eq, ed]
    omega
  · have c' := c
    rw [zi_lt, ei] at c'
    rw [if_neg c, if_pos ((zi_le _ _).mpr (by
      rw [z0]
      omega))]
theorem tJu_rng (hO : tOk m q) (h1 : 1 ≤ m) (h2 : m ≤ 39) (hJ : tJ q = 0 ∨ tJ q = 1) (i : Nat) : 0 ≤ (sJu (tJ q) (tFr m q) i m).toInt ∧ (sJu (tJ q) (tFr m q) i m).toInt ≤ 1200 ∧ sJu (tJ q) (tFr m q) i m = sJu (tJ q) (tFr m q) 0 m := by
  rcases hJ with e | e
  · rw [e, sJu_0, sJu_0]
    exact ⟨by decide, by decide, rfl⟩
  · have f := tFr_int hO h1 h2
    have s := tsum_int hO h2 (f := tF m q) (fun j hj => tF_rng hO h1 h2 hj) (Nat.le_refl m)
    have g := tGp_rng hO h1 h2
    have x := tIn_int hO
    have ow := hO.1
    have oa := hO.2.2.1
    have z0 : (0 : Int32).toInt = 0 := rfl
    rw [e, sJu_1, sJu_1]
    refine ⟨?_, ?_, rfl⟩
    · by_cases c : tFr m q ≤ 0
      · rw [if_pos c, z0]
        exact Int.le_refl _
      · rw [if_neg c]
        rw [zi_le, z0] at c
        omega
    · by_cases c : tFr m q ≤ 0
      · rw [if_pos c, z0]
        decide
      · rw [if_neg c]
        omega
/-- the ends of the boxes, one behind the other -/
def tE (m : Nat) (q : tP) (i : Nat) : Int32 := tX m q i + tF m q i + tM q i
theorem tE_int (hO : tOk m q) (h1 : 1 ≤ m) (h2 : m ≤ 39) (hJ : tJ q = 0 ∨ tJ q = 1) {i : Nat} (hi : i < m) : (tX m q i).toInt = (tA q).toInt + zsumZ (fun j => (tF m q j + 2 * tM q j + tG q).toInt) i + (sJu (tJ q) (tFr m q) 0 m).toInt + (tM q i).toInt ∧ (tE m q i).toInt = (tX m q i).toInt + (tF m q i).toInt + (tM q i).toInt ∧ (0 ≤ (tX m q i).toInt ∧ (tX m q i).toInt ≤ 500000) ∧ (∀ j, j < m → (tF m q j + 2 * tM q j + tG q).toInt = (tF m q j).toInt + 2 * (tM q j).toInt + (tG q).toInt) := by
  have og := hO.2.1
  have oa := hO.2.2.1
  have om := (hO.2.2.2 i hi).2.2.1
  have of := tF_rng hO h1 h2 hi
  have ju := tJu_rng hO h1 h2 hJ i
  have e0 : ∀ j, j < m → (tF m q j + 2 * tM q j + tG q).toInt = (tF m q j).toInt + 2 * (tM q j).toInt + (tG q).toInt := fun j hj => by
    have a := tF_rng hO h1 h2 hj
    have b := (hO.2.2.2 j hj).2.2.1
    have c := tM2 hO hj
    have d : (tF m q j + 2 * tM q j).toInt = (tF m q j).toInt + (2 * tM q j).toInt := by
      rw [Int32.toInt_add]
      apply Int.bmod_eq_of_le <;> omega
    rw [Int32.toInt_add, d, c]
    apply Int.bmod_eq_of_le <;> omega
  have s := zsum_int (f := fun j => tF m q j + 2 * tM q j + tG q) (n := i) (by omega) (fun j hj => by
    have a := tF_rng hO h1 h2 (show j < m by omega)
    have b := (hO.2.2.2 j (by omega)).2.2.1
    have d := e0 j (by omega)
    show -20000 ≤ (tF m q j + 2 * tM q j + tG q).toInt ∧ (tF m q j + 2 * tM q j + tG q).toInt ≤ 20000
    omega)
  have b2 := zsumZ_neg (f := fun j => (tF m q j + 2 * tM q j + tG q).toInt) (n := i) (fun j hj => by
    have a := tF_rng hO h1 h2 (show j < m by omega)
    have b := (hO.2.2.2 j (by omega)).2.2.1
    have d := e0 j (by omega)
    show 0 ≤ (tF m q j + 2 * tM q j + tG q).toInt
    omega)
  have b3 := zsumZ_bd (f := fun j => (tF m q j + 2 * tM q j + tG q).toInt) (c := 10100) (by decide) (n := i) (fun j hj => by
    have a := tF_rng hO h1 h2 (show j < m by omega)
    have b := (hO.2.2.2 j (by omega)).2.2.1
    have d := e0 j (by omega)
    show -10100 ≤ (tF m q j + 2 * tM q j + tG q).toInt ∧ (tF m q j + 2 * tM q j + tG q).toInt ≤ 10100
    omega)
  have x1 : (zsum (fun j => tF m q j + 2 * tM q j + tG q) i + sJu (tJ q) (tFr m q) i m).toInt = zsumZ (fun j => (tF m q j + 2 * tM q j + tG q).toInt) i + (sJu (tJ q) (tFr m q) i m).toInt := by
    rw [Int32.toInt_add, s.1]
    apply Int.bmod_eq_of_le <;> omega
  have x2 : (zsum (fun j => tF m q j + 2 * tM q j + tG q) i + sJu (tJ q) (tFr m q) i m + tM q i).toInt = zsumZ (fun j => (tF m q j + 2 * tM q j + tG q).toInt) i + (sJu (tJ q) (tFr m q) i m).toInt + (tM q i).toInt := by
    rw [Int32.toInt_add, x1]
    apply Int.bmod_eq_of_le <;> omega
  have x3 : (tX m q i).toInt = (tA q).toInt + zsumZ (fun j => (tF m q j + 2 * tM q j + tG q).toInt) i + (sJu (tJ q) (tFr m q) i m).toInt + (tM q i).toInt := by
    unfold tX
    rw [Int32.zero_add, Int32.toInt_add, x2]
    rw [show (tA q).toInt + zsumZ (fun j => (tF m q j + 2 * tM q j + tG q).toInt) i + (sJu (tJ q) (tFr m q) i m).toInt + (tM q i).toInt = (tA q).toInt + (zsumZ (fun j => (tF m q j + 2 * tM q j + tG q).toInt) i + (sJu (tJ q) (tFr m q) i m).toInt + (tM q i).toInt) by omega]
    apply Int.bmod_eq_of_le <;> omega
  have x4 : (tX m q i + tF m q i).toInt = (tX m q i).toInt + (tF m q i).toInt := by
    rw [Int32.toInt_add]
    apply Int.bmod_eq_of_le <;> omega
  refine ⟨?_, ?_, ?_, e0⟩
  · rw [x3, ju.2.2]
  · unfold tE
    rw [Int32.toInt_add, x4]
    apply Int.bmod_eq_of_le <;> omega
  · omega
theorem tE_mono (hO : tOk m q) (h1 : 1 ≤ m) (h2 : m ≤ 39) (hJ : tJ q = 0 ∨ tJ q = 1) {i : Nat} : ∀ d, i + d < m → (tE m q i).toInt ≤ (tE m q (i + d)).toInt
  | 0, _ => Int.le_refl _
  | d + 1, hd => by
    have ih := tE_mono hO h1 h2 hJ (i := i) d (by omega)
    have a := tE_int hO h1 h2 hJ (i := i + d) (by omega)
    have b := tE_int hO h1 h2 hJ (i := i + d + 1) (by omega)
    have e : zsumZ (fun j => (tF m q j + 2 * tM q j + tG q).toInt) (i + d + 1) = zsumZ (fun j => (tF m q j + 2 * tM q j + tG q).toInt) (i + d) + (tF m q (i + d) + 2 * tM q (i + d) + tG q).toInt := rfl
    have c := a.2.2.2 (i + d) (by omega)
    have og := hO.2.1
    have o1 := (hO.2.2.2 (i + d) (by omega)).2.2.1
    have o2 := (hO.2.2.2 (i + d + 1) (by omega)).2.2.1
    have f1 := tF_rng hO h1 h2 (show i + d + 1 < m by omega)
    show (tE m q i).toInt ≤ (tE m q (i + d + 1)).toInt
    omega
theorem zor_iff {f : Nat → Bool} : ∀ {n : Nat}, zor f n = true ↔ ∃ i, i < n ∧ f i = true
  | 0 => by
    constructor
    · intro z
      cases z
    · rintro ⟨i, z, _⟩
      exact absurd z (Nat.not_lt_zero _)
  | n + 1 => by
    show (zor f n || f n) = true ↔ _
    rw [Bool.or_eq_true, zor_iff]
    constructor
    · rintro (⟨i, z, y⟩ | z)
      · exact ⟨i, by omega, y⟩
      · exact ⟨n, by omega, z⟩
    · rintro ⟨i, z, y⟩
      by_cases e : i = n
      · rw [e] at y
        exact Or.inr y
      · exact Or.inl ⟨i, by omega, y⟩
variable {σ : zS}
theorem tT_ov (T : tT m 0 q σ) (hR : tR q = 0) (hO : tOk m q) (h1 : 1 ≤ m) (h2 : m ≤ 39) (hJ : tJ q = 0 ∨ tJ q = 1) : ∃ b : Bool, sOvf σ 0 = zB (decide (tW q - tA q < tE m q (m - 1))) + zB2 b := by
  have hk := tT_kn T (by decide)
  have r := tT_r T
  have ef : ∀ i, i < m → sOvX σ 0 i = decide (tW q - tA q < tE m q i) := fun i hi => by
    have ek : kd σ 0 i = i + 1 := tT_kd T (by decide) hi
    unfold sOvX
    rw [ek, sX_0, tT_0 T, r.2.2.2.2.2, tT_x T hR hO hi, tT_wd T hR hO hi, (tT_b T hi).1, Int32.zero_add]
    rfl
  have e : zor (sOvX σ 0) m = decide (tW q - tA q < tE m q (m - 1)) := by
    have iff : zor (sOvX σ 0) m = true ↔ tW q - tA q < tE m q (m - 1) := by
      rw [zor_iff]
      constructor
      · rintro ⟨i, hi, c⟩
        rw [ef i hi] at c
        have c := of_decide_eq_true c
        have mo := tE_mono hO h1 h2 hJ (i := i) (m - 1 - i) (by omega)
        rw [show i + (m - 1 - i) = m - 1 by omega] at mo
        rw [zi_lt] at c ⊢
        omega
      · intro c
        exact ⟨m - 1, by omega, by rw [ef (m - 1) (by omega)]; exact decide_eq_true c⟩
    cases c : zor (sOvX σ 0) m with
    | true => exact (decide_eq_true (iff.mp c)).symm
    | false =>
      refine (decide_eq_false (fun z => ?_)).symm
      rw [iff.mpr z] at c
      cases c
  refine ⟨zor (sOvY σ 0) m, ?_⟩
  unfold sOvf sOv
  rw [if_pos (tT_con T h1), hk]
  show zB (zor (sOvX σ 0) m) + _ = _
  rw [e]
  rfl
theorem zrem2 (a b : Bool) : zB a + zB2 b - (zB a + zB2 b) / 2 * 2 = zB a := by
  cases a <;> cases b <;> rfl
end
end ZT4
