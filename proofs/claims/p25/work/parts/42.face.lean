section ZFC
theorem zat_in {k : Nat} (h : ((vx_atS "FlexibleBoxes" (zEic k) (zEn k) zXn).filter goodWord).all (fun w => lw_tbl.contains w) = true) : ∀ w ∈ (vx_atS "FlexibleBoxes" (zEic k) (zEn k) zXn).filter goodWord, w ∈ zU := fun w hw => by
  have h1 := List.all_eq_true.mp h w hw
  exact List.mem_filter.mpr ⟨List.contains_iff_mem.mp h1, (List.mem_filter.mp hw).2⟩
theorem zat_0 : ∀ w ∈ (vx_atS "FlexibleBoxes" (zEic 0) (zEn 0) zXn).filter goodWord, w ∈ zU := zat_in (by decide +kernel)
theorem zat_1 : ∀ w ∈ (vx_atS "FlexibleBoxes" (zEic 1) (zEn 1) zXn).filter goodWord, w ∈ zU := zat_in (by decide +kernel)
theorem zat_2 : ∀ w ∈ (vx_atS "FlexibleBoxes" (zEic 2) (zEn 2) zXn).filter goodWord, w ∈ zU := zat_in (by decide +kernel)
theorem znb_0 : ∀ w ∈ (vx_atS "FlexibleBoxes" (zEic 0) (zEn 0) zXn).filter (fun w => !goodWord w), w ∈ [Cond.declares (zDn 0), Cond.declares (zDn 1), Cond.declares (zDn 2), Cond.castable (zEn 0) (zEn 0)] := by decide +kernel
theorem znb_1 : ∀ w ∈ (vx_atS "FlexibleBoxes" (zEic 1) (zEn 1) zXn).filter (fun w => !goodWord w), w ∈ [Cond.declares (zDn 0), Cond.declares (zDn 1), Cond.declares (zDn 2), Cond.castable (zEn 1) (zEn 1)] := by decide +kernel
theorem znb_2 : ∀ w ∈ (vx_atS "FlexibleBoxes" (zEic 2) (zEn 2) zXn).filter (fun w => !goodWord w), w ∈ [Cond.declares (zDn 0), Cond.declares (zDn 1), Cond.declares (zDn 2), Cond.castable (zEn 2) (zEn 2)] := by decide +kernel
theorem zgw_0 : ∀ w ∈ vx_atS "FlexibleBoxes" (zEic 0) (zEn 0) zXn, vx_ot w = true := by decide +kernel
theorem zgw_1 : ∀ w ∈ vx_atS "FlexibleBoxes" (zEic 1) (zEn 1) zXn, vx_ot w = true := by decide +kernel
theorem zgw_2 : ∀ w ∈ vx_atS "FlexibleBoxes" (zEic 2) (zEn 2) zXn, vx_ot w = true := by decide +kernel
/-- the class's state: the tree, and the layout unless it is stale -/
def zCl (σ : zS) (I : Nat → Nat → Int32) (P : Nat → Nat → Option Nat) : Prop := zTr σ I P ∧ zRt I ∧ (I 82 2 = 0 → zAr σ I P)
/-- what the class leaves of the others -/
def zKp (I : Nat → Nat → Int32) (P : Nat → Nat → Option Nat) (J : Nat → Nat → Int64) (I' : Nat → Nat → Int32) (P' : Nat → Nat → Option Nat) (J' : Nat → Nat → Int64) : Prop := J' = J ∧ (∀ q j, 95 ≤ q → I' q j = I q j) ∧ ∀ q j, 40 ≤ q → P' q j = P q j
theorem zKp.rf {I : Nat → Nat → Int32} {P : Nat → Nat → Option Nat} {J : Nat → Nat → Int64} : zKp I P J I P J := ⟨rfl, fun _ _ _ => rfl, fun _ _ _ => rfl⟩
theorem zKp.tr {I I1 I2 : Nat → Nat → Int32} {P P1 P2 : Nat → Nat → Option Nat} {J J1 J2 : Nat → Nat → Int64} (h1 : zKp I P J I1 P1 J1) (h2 : zKp I1 P1 J1 I2 P2 J2) : zKp I P J I2 P2 J2 := ⟨h2.1.trans h1.1, fun q j h => (h2.2.1 q j h).trans (h1.2.1 q j h), fun q j h => (h2.2.2 q j h).trans (h1.2.2 q j h)⟩
/-- a box's number -/
def sBx (σ : zS) (x : Int32) : Prop := ∃ b, x = nI b ∧ b < 40 ∧ sEx σ b = true
theorem zi_nI {x : Int32} {n : Nat} (hn : n < 2 ^ 31) (h0 : 0 ≤ x) (h1 : x < nI n) : ∃ k, k < n ∧ x = nI k := by
  have e0 := (zi_le _ _).mp h0
  have e1 := (zi_lt _ _).mp h1
  rw [nI_toInt hn] at e1
  have ez : (0 : Int32).toInt = 0 := rfl
  rw [ez] at e0
  refine ⟨x.toInt.toNat, by omega, ?_⟩
  rw [zi_eq, nI_toInt (by omega)]
  omega
theorem nI_40 {k : Nat} (h : k < 40) : 0 ≤ nI k ∧ nI k < 40 := by
  rw [zi_le, zi_lt, nI_toInt (by omega)]
  have e0 : (0 : Int32).toInt = 0 := rfl
  have e1 : (40 : Int32).toInt = 40 := rfl
  omega
theorem sBx_n {σ : zS} {x : Int32} (h : ¬ (0 ≤ x ∧ x < 40)) : ¬ sBx σ x := fun q => by
  obtain ⟨b, e, hb, _⟩ := q
  exact h (by rw [e]; exact nI_40 hb)
theorem sBx_k {σ : zS} {k : Nat} (hk : k < 40) (h : sEx σ k = false) : ¬ sBx σ (nI k) := fun q => by
  obtain ⟨b, e, hb, he⟩ := q
  have := (nI_eq (by omega) (by omega)).mp e
  rw [this, he] at h
  cases h
end ZFC
