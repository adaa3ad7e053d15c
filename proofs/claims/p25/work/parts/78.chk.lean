section ZT3
/-! what the law adds up, and what it asks of the widths -/
def tGp (m : Nat) (q : tP) : Int32 := tG q * (nI m - 1)
def tSz (q : tP) (j : Nat) : Int32 := zlim (tB q j) (tLo q j) (tHi q j)
def tNd (m : Nat) (q : tP) : Nat → Int32
  | 0 => 2 * tA q + tGp m q
  | k + 1 => tNd m q k + (tSz q k + 2 * tM q k)
def tUs (m : Nat) (q : tP) : Nat → Int32
  | 0 => 2 * tA q + tGp m q
  | k + 1 => tUs m q k + (tF m q k + 2 * tM q k)
def tGr (m : Nat) (q : tP) : Bool := decide (tNd m q m < tW q)
def tCd (gr : Bool) (m : Nat) (q : tP) (j : Nat) : Prop := if gr = true then (tGw q j = 0 ∨ tF m q j = zlim 10000 (tLo q j) (tHi q j) ∨ tSz q j < tB q j) else (tF m q j = zlim 0 (tLo q j) (tHi q j) ∨ tB q j < tSz q j ∨ tB q j = 0)
theorem z32_2 {x : Int32} (h : 0 ≤ x.toInt ∧ x.toInt ≤ 1000) : (2 * x).toInt = 2 * x.toInt := by
  have e : (2 : Int32).toInt = 2 := rfl
  rw [Int32.toInt_mul, e]
  apply Int.bmod_eq_of_le <;> omega
theorem zacc {c : Int32} {f a : Nat → Int32} (h0 : a 0 = c) (hs : ∀ k, a (k + 1) = a k + f k) : ∀ k, a k = c + zsum f k
  | 0 => by
    show a 0 = c + 0
    rw [h0, Int32.add_zero]
  | k + 1 => by
    show a (k + 1) = c + (zsum f k + f k)
    rw [hs k, zacc h0 hs k, Int32.add_assoc]
theorem zgap_1 {m : Nat} (h1 : 1 ≤ m) (h2 : m ≤ 40) (g : Int32) : zgap (nI m) g = g * (nI m - 1) := by
  unfold zgap
  by_cases c : 1 < nI m
  · rw [if_pos c, Int32.mul_comm]
  · rw [if_neg c]
    have e : m = 1 := by
      have z : ¬ 1 < m := fun x => c ((zm_one h2).mpr x)
      omega
    rw [e]
    show 0 = g * (nI 1 - 1)
    rw [show nI 1 - 1 = 0 from rfl, Int32.mul_zero]
section
variable {m : Nat} {q : tP}
theorem tGp_rng (hO : tOk m q) (h1 : 1 ≤ m) (h2 : m ≤ 39) : 0 ≤ (tGp m q).toInt ∧ (tGp m q).toInt ≤ 1000 := by
  have g := hO.2.1
  have e : nI m - 1 = nI (m - 1) := by
    rw [show m = (m - 1) + 1 by omega, ← nI_1, Int32.add_sub_cancel]
    rfl
  have e1 : (nI (m - 1)).toInt = ((m - 1 : Nat) : Int) := nI_toInt (by omega)
  have p0 : 0 ≤ (tG q).toInt * (nI (m - 1)).toInt := Int.mul_nonneg g.1 (by omega)
  have p1 : (tG q).toInt * (nI (m - 1)).toInt ≤ 19 * 38 := Int.mul_le_mul (by omega) (by omega) (by omega) (by decide)
  have e2 : (tGp m q).toInt = (tG q).toInt * (nI (m - 1)).toInt := by
    unfold tGp
    rw [e, Int32.toInt_mul]
    apply Int.bmod_eq_of_le <;> omega
  rw [e2]
  omega
theorem tM2 (hO : tOk m q) {j : Nat} (hj : j < m) : (2 * tM q j).toInt = 2 * (tM q j).toInt := z32_2 (by have := (hO.2.2.2 j hj).2.2.1; omega)
theorem tSz_rng (hO : tOk m q) {j : Nat} (hj : j < m) : 0 ≤ (tSz q j).toInt ∧ (tSz q j).toInt ≤ 10000 := by
  have o := hO.2.2.2 j hj
  exact zlim_rng (by omega) (by omega)
/-- a sum of sizes and margins -/
theorem tsum_int (hO : tOk m q) (h2 : m ≤ 39) {f : Nat → Int32} (hf : ∀ j, j < m → 0 ≤ (f j).toInt ∧ (f j).toInt ≤ 10000) {k : Nat} (hk : k ≤ m) : (zsum (fun j => f j + 2 * tM q j) k).toInt = zsumZ (fun j => (f j).toInt) k + zsumZ (fun j => (2 * tM q j).toInt) k ∧ (0 ≤ zsumZ (fun j => (f j).toInt) k ∧ zsumZ (fun j => (f j).toInt) k ≤ 400000) ∧ (0 ≤ zsumZ (fun j => (2 * tM q j).toInt) k ∧ zsumZ (fun j => (2 * tM q j).toInt) k ≤ 2000) := by
  have e1 : ∀ j, j < k → (f j + 2 * tM q j).toInt = (f j).toInt + (2 * tM q j).toInt := fun j hj => by
    have a := hf j (by omega)
    have b := (hO.2.2.2 j (by omega)).2.2.1
    have c := tM2 hO (show j < m by omega)
    rw [Int32.toInt_add]
    apply Int.bmod_eq_of_le <;> omega
  have s := zsum_int (f := fun j => f j + 2 * tM q j) (n := k) (by omega) (fun j hj => by
    have a := hf j (by omega)
    have b := (hO.2.2.2 j (by omega)).2.2.1
    have c := tM2 hO (show j < m by omega)
    have d := e1 j hj
    show -20000 ≤ (f j + 2 * tM q j).toInt ∧ (f j + 2 * tM q j).toInt ≤ 20000
    omega)
  have b1 := zsumZ_bd (f := fun j => (f j).toInt) (c := 10000) (by decide) (n := k) (fun j hj => by
    have a := hf j (by omega)
    show -10000 ≤ (f j).toInt ∧ (f j).toInt ≤ 10000
    omega)
  have b2 := zsumZ_neg (f := fun j => (f j).toInt) (n := k) (fun j hj => (hf j (by omega)).1)
  have b3 := zsumZ_bd (f := fun j => (2 * tM q j).toInt) (c := 30) (by decide) (n := k) (fun j hj => by
    have b := (hO.2.2.2 j (by omega)).2.2.1
    have c := tM2 hO (show j < m by omega)
    show -30 ≤ (2 * tM q j).toInt ∧ (2 * tM q j).toInt ≤ 30
    omega)
  have b4 := zsumZ_neg (f := fun j => (2 * tM q j).toInt) (n := k) (fun j hj => by
    have b := (hO.2.2.2 j (by omega)).2.2.1
    have c := tM2 hO (show j < m by omega)
    show 0 ≤ (2 * tM q j).toInt
    omega)
  refine ⟨?_, ⟨b2, by omega⟩, b4, by omega⟩
  rw [s.1]
  exact zsumZ_add e1
theorem tA2 (hO : tOk m q) : (2 * tA q).toInt = 2 * (tA q).toInt := z32_2 (by have := hO.2.2.1; omega)
theorem tacc_int (hO : tOk m q) (h1 : 1 ≤ m) (h2 : m ≤ 39) {f a : Nat → Int32} (hf : ∀ j, j < m → 0 ≤ (f j).toInt ∧ (f j).toInt ≤ 10000) (h0 : a 0 = 2 * tA q + tGp m q) (hs : ∀ k, a (k + 1) = a k + (f k + 2 * tM q k)) {k : Nat} (hk : k ≤ m) : (a k).toInt = 2 * (tA q).toInt + (tGp m q).toInt + (zsumZ (fun j => (f j).toInt) k + zsumZ (fun j => (2 * tM q j).toInt) k) := by
  have e := zacc (f := fun j => f j + 2 * tM q j) h0 hs k
  have s := tsum_int hO h2 hf hk
  have g := tGp_rng hO h1 h2
  have a2 := tA2 hO
  have oa := hO.2.2.1
  have e1 : (2 * tA q + tGp m q).toInt = 2 * (tA q).toInt + (tGp m q).toInt := by
    rw [Int32.toInt_add, a2]
    apply Int.bmod_eq_of_le <;> omega
  rw [e, Int32.toInt_add, e1, s.1]
  apply Int.bmod_eq_of_le <;> omega
/-- the inner width -/
theorem tIn_int (hO : tOk m q) : ((tW q).toInt < 2 * (tA q).toInt ∧ (tIn q).toInt = 0) ∨ (2 * (tA q).toInt ≤ (tW q).toInt ∧ (tIn q).toInt = (tW q).toInt - 2 * (tA q).toInt) := by
  have a2 := tA2 hO
  have oa := hO.2.2.1
  have ow := hO.1
  have e : (tW q - 2 * tA q).toInt = (tW q).toInt - 2 * (tA q).toInt := by
    rw [Int32.toInt_sub, a2]
    apply Int.bmod_eq_of_le <;> omega
  have z0 : (0 : Int32).toInt = 0 := rfl
  unfold tIn sIn zpos
  by_cases c : tW q - 2 * tA q < 0
  · rw [if_pos c]
    rw [zi_lt, e, z0] at c
    exact Or.inl ⟨by omega, z0⟩
  · rw [if_neg c]
    rw [zi_lt, e, z0] at c
    exact Or.inr ⟨by omega, e⟩
theorem tRoom_int (hO : tOk m q) (h1 : 1 ≤ m) (h2 : m ≤ 39) : (tRoom m q).toInt = (tIn q).toInt - zsumZ (fun j => (2 * tM q j).toInt) m - (tGp m q).toInt ∧ 0 ≤ zsumZ (fun j => (2 * tM q j).toInt) m ∧ zsumZ (fun j => (2 * tM q j).toInt) m ≤ 2000 := by
  have g := tGp_rng hO h1 h2
  have i := tIn_int hO
  have ow := hO.1
  have oa := hO.2.2.1
  have b3 := (tsum_int hO h2 (f := fun _ => 0) (fun _ _ => by decide) (Nat.le_refl m)).2.2
  have s := zsum_int (f := fun j => 2 * tM q j) (n := m) (by omega) (fun j hj => by
    have b := (hO.2.2.2 j (by omega)).2.2.1
    have c := tM2 hO (show j < m by omega)
    show -20000 ≤ (2 * tM q j).toInt ∧ (2 * tM q j).toInt ≤ 20000
    omega)
  have e1 : (tIn q - zsum (fun j => 2 * tM q j) m).toInt = (tIn q).toInt - zsumZ (fun j => (2 * tM q j).toInt) m := by
    rw [Int32.toInt_sub, s.1]
    apply Int.bmod_eq_of_le <;> omega
  refine ⟨?_, b3⟩
  unfold tRoom
  rw [zgap_1 h1 (by omega)]
  show (tIn q - zsum (fun j => 2 * tM q j) m - tGp m q).toInt = _
  rw [Int32.toInt_sub, e1]
  apply Int.bmod_eq_of_le <;> omega
theorem tNd_int (hO : tOk m q) (h1 : 1 ≤ m) (h2 : m ≤ 39) {k : Nat} (hk : k ≤ m) : (tNd m q k).toInt = 2 * (tA q).toInt + (tGp m q).toInt + (zsumZ (fun j => (tSz q j).toInt) k + zsumZ (fun j => (2 * tM q j).toInt) k) := tacc_int hO h1 h2 (fun j hj => tSz_rng hO hj) rfl (fun _ => rfl) hk
/-- they grow for the law where they grow in FLEXING -/
theorem tGr_fx (hO : tOk m q) (h1 : 1 ≤ m) (h2 : m ≤ 39) : fxGr m (tRoom m q) (tB q) (tLo q) (tHi q) = tGr m q := by
  have n := tNd_int hO h1 h2 (Nat.le_refl m)
  have r := tRoom_int hO h1 h2
  have i := tIn_int hO
  have ow := hO.1
  have g := tGp_rng hO h1 h2
  have s := zsum_int (f := fun j => tSz q j) (n := m) (by omega) (fun j hj => by
    have c := tSz_rng hO hj
    show -20000 ≤ (tSz q j).toInt ∧ (tSz q j).toInt ≤ 20000
    omega)
  have p := zsumZ_neg (f := fun j => (tSz q j).toInt) (n := m) (fun j hj => (tSz_rng hO hj).1)
  have e : zsum (fxStart (tB q) (tLo q) (tHi q)) m = zsum (fun j => tSz q j) m := rfl
  unfold fxGr tGr
  rw [e]
  refine decide_eq_decide.mpr ?_
  rw [zi_lt, zi_lt, s.1, r.1, n]
  omega
theorem tFin (hO : tOk m q) (h1 : 1 ≤ m) (h2 : m ≤ 39) : (∀ j, j < m → (0 ≤ (tF m q j).toInt ∧ (tF m q j).toInt ≤ 10000) ∧ sg (tGr m q) (tSz q j).toInt ≤ sg (tGr m q) (tF m q j).toInt ∧ zlim (tF m q j) (tLo q j) (tHi q j) = tF m q j) ∧ zsumZ (fun j => sg (tGr m q) (tF m q j).toInt) m ≤ sg (tGr m q) (tRoom m q).toInt ∧ (zsumZ (fun j => sg (tGr m q) (tF m q j).toInt) m < sg (tGr m q) (tRoom m q).toInt → ∀ j, j < m → ((if tGr m q = true then tGw q j else tB q j) = 0 ∨ sg (tGr m q) (tSz q j).toInt < sg (tGr m q) (tB q j).toInt) ∨ sg (tGr m q) (tF m q j).toInt = qb (tGr m q) (tLo q) (tHi q) j) := fx_fin (n := m) (room := tRoom m q) (bs := tB q) (lo := tLo q) (hi := tHi q) (gw := tGw q) (sk := fun _ => 1) (gr := tGr m q) (tGr_fx hO h1 h2) (by omega) (by
    have r := tRoom_int hO h1 h2
    have i := tIn_int hO
    have ow := hO.1
    have oa := hO.2.2.1
    have g := tGp_rng hO h1 h2
    omega) (fun j hj => by have o := hO.2.2.2 j hj; omega) (fun j hj => by have o := hO.2.2.2 j hj; omega) (fun j hj => by have o := hO.2.2.2 j hj; omega) (fun j hj => by have o := hO.2.2.2 j hj; omega) (fun _ _ => rfl)
theorem tF_rng (hO : tOk m q) (h1 : 1 ≤ m) (h2 : m ≤ 39) {j : Nat} (hj : j < m) : 0 ≤ (tF m q j).toInt ∧ (tF m q j).toInt ≤ 10000 := ((tFin hO h1 h2).1 j hj).1
theorem tF_lim (hO : tOk m q) (h1 : 1 ≤ m) (h2 : m ≤ 39) {j : Nat} (hj : j < m) : zlim (tF m q j) (tLo q j) (tHi q j) = tF m q j := ((tFin hO h1 h2).1 j hj).2.2
theorem tF_st (hO : tOk m q) (h1 : 1 ≤ m) (h2 : m ≤ 39) {j : Nat} (hj : j < m) : (tGr m q = true → ¬ tF m q j < tSz q j) ∧ (tGr m q = false → ¬ tSz q j < tF m q j) := by
  have z := ((tFin hO h1 h2).1 j hj).2.1
  refine ⟨fun e c => ?_, fun e c => ?_⟩
  · rw [e] at z
    have z : (tSz q j).toInt ≤ (tF m q j).toInt := z
    rw [zi_lt] at c
    omega
  · rw [e] at z
    have z : -(tSz q j).toInt ≤ -(tF m q j).toInt := z
    rw [zi_lt] at c
    omega
theorem tUs_int (hO : tOk m q) (h1 : 1 ≤ m) (h2 : m ≤ 39) {k : Nat} (hk : k ≤ m) : (tUs m q k).toInt = 2 * (tA q).toInt + (tGp m q).toInt + (zsumZ (fun j => (tF m q j).toInt) k + zsumZ (fun j => (2 * tM q j).toInt) k) := tacc_int hO h1 h2 (fun j hj => tF_rng hO h1 h2 hj) rfl (fun _ => rfl) hk
/-- what fills the space, or why not -/
theorem tUs_gr (hO : tOk m q) (h1 : 1 ≤ m) (h2 : m ≤ 39) (e : tGr m q = true) : ¬ tW q < tUs m q m ∧ (tUs m q m < tW q → ∀ j, j < m → tCd true m q j) := by
  have F := tFin hO h1 h2
  rw [e] at F
  have u := tUs_int hO h1 h2 (Nat.le_refl m)
  have r := tRoom_int hO h1 h2
  have i := tIn_int hO
  have g := tGp_rng hO h1 h2
  have n := tNd_int hO h1 h2 (Nat.le_refl m)
  have p := zsumZ_neg (f := fun j => (tSz q j).toInt) (n := m) (fun j hj => (tSz_rng hO hj).1)
  have lt : (tNd m q m).toInt < (tW q).toInt := (zi_lt _ _).mp (of_decide_eq_true e)
  have F2 : zsumZ (fun j => (tF m q j).toInt) m ≤ (tRoom m q).toInt := F.2.1
  refine ⟨fun c => ?_, fun c j hj => ?_⟩
  · rw [zi_lt] at c
    omega
  · rw [zi_lt] at c
    have c2 : zsumZ (fun j => (tF m q j).toInt) m < (tRoom m q).toInt := by omega
    have o := hO.2.2.2 j hj
    rcases F.2.2 c2 j hj with (k | k) | k
    · exact Or.inl k
    · exact Or.inr (Or.inr ((zi_lt _ _).mpr k))
    · refine Or.inr (Or.inl ?_)
      have k : (tF m q j).toInt = qmx (tLo q j).toInt (tHi q j).toInt := k
      have t : (10000 : Int32).toInt = 10000 := rfl
      rw [zi_eq, zlim_int, k, t]
      have x : qmx (tLo q j).toInt (tHi q j).toInt ≤ 10000 := by
        unfold qmx
        by_cases d : (tLo q j).toInt < (tHi q j).toInt
        · rw [if_pos d]; omega
        · rw [if_neg d]; omega
      unfold qcl
      rw [if_neg (by omega)]
      by_cases d : qmx (tLo q j).toInt (tHi q j).toInt < 10000
      · rw [if_pos d]
      · rw [if_neg d]; omega
theorem tUs_sh (hO : tOk m q) (h1 : 1 ≤ m) (h2 : m ≤ 39) (e : tGr m q = false) : ¬ tUs m q m < tIn q + 2 * tA q ∧ (tIn q + 2 * tA q < tUs m q m → ∀ j, j < m → tCd false m q j) := by
  have F := tFin hO h1 h2
  rw [e] at F
  have u := tUs_int hO h1 h2 (Nat.le_refl m)
  have r := tRoom_int hO h1 h2
  have i := tIn_int hO
  have g := tGp_rng hO h1 h2
  have a2 := tA2 hO
  have oa := hO.2.2.1
  have ow := hO.1
  have ei : (tIn q + 2 * tA q).toInt = (tIn q).toInt + 2 * (tA q).toInt := by
    rw [Int32.toInt_add, a2]
    apply Int.bmod_eq_of_le <;> omega
  have F2 : zsumZ (fun j => -(tF m q j).toInt) m ≤ -(tRoom m q).toInt := F.2.1
  rw [zsumZ_min] at F2
  refine ⟨fun c => ?_, fun c j hj => ?_⟩
  · rw [zi_lt, ei] at c
    omega
  · rw [zi_lt, ei] at c
    have c2 : zsumZ (fun j => -(tF m q j).toInt) m < -(tRoom m q).toInt := by
      rw [zsumZ_min]
      omega
    have o := hO.2.2.2 j hj
    rcases F.2.2 c2 j hj with (k | k) | k
    · exact Or.inr (Or.inr k)
    · have k : -(tSz q j).toInt < -(tB q j).toInt := k
      exact Or.inr (Or.inl ((zi_lt _ _).mpr (by omega)))
    · refine Or.inl ?_
      have k : -(tF m q j).toInt = -(tLo q j).toInt := k
      have t : (0 : Int32).toInt = 0 := rfl
      have x := (qmx_le (tLo q j).toInt (tHi q j).toInt).1
      rw [zi_eq, zlim_int, t]
      unfold qcl
      by_cases d : 0 < (tLo q j).toInt
      · rw [if_pos d]; omega
      · rw [if_neg d, if_neg (by omega)]; omega
end
end ZT3
