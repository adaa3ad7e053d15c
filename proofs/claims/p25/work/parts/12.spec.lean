section ZSP
/-! THE TREE as a value: who exists, parents, properties, the viewport's width and height, how many numbers are given -/
abbrev zS : Type := (Nat → Bool) × (Nat → Nat) × (Nat → Nat → Int32) × Int32 × Int32 × Nat
abbrev sEx (σ : zS) (b : Nat) : Bool := σ.1 b
abbrev sPa (σ : zS) (b : Nat) : Nat := σ.2.1 b
abbrev sSt (σ : zS) (b k : Nat) : Int32 := σ.2.2.1 b k
abbrev sVw (σ : zS) : Int32 := σ.2.2.2.1
abbrev sVh (σ : zS) : Int32 := σ.2.2.2.2.1
abbrev sGv (σ : zS) : Nat := σ.2.2.2.2.2
def sWF (σ : zS) : Prop := sEx σ 0 = true ∧ 1 ≤ sGv σ ∧ sGv σ ≤ 40 ∧ (∀ b, sEx σ b = true → b < sGv σ) ∧ (∀ b, sEx σ b = true → b ≠ 0 → sPa σ b < b ∧ sEx σ (sPa σ b) = true) ∧ (∀ b, sEx σ b = true → ∀ k, k < 20 → z_st 0 k ≤ sSt σ b k ∧ sSt σ b k ≤ z_st 1 k) ∧ (0 ≤ sVw σ ∧ sVw σ ≤ 2000) ∧ (0 ≤ sVh σ ∧ sVh σ ≤ 2000)
/-- c is a child of p -/
def sK (σ : zS) (p c : Nat) : Bool := decide (c ≠ 0) && (sEx σ c && decide (sPa σ c = p))
/-- .. that isn't hidden -/
def sV (σ : zS) (p c : Nat) : Bool := sK σ p c && decide (sSt σ c 18 = 0)
def sKidsN (σ : zS) (p : Nat) : Nat → List Nat
  | 0 => []
  | n + 1 => if sV σ p n = true then zins (fun x => sSt σ x 17) n (sKidsN σ p n) else sKidsN σ p n
def sKids (σ : zS) (p : Nat) : List Nat := sKidsN σ p 40
def sConN (σ : zS) (p : Nat) : Nat → Bool
  | 0 => false
  | n + 1 => sConN σ p n || sK σ p n
/-- whether it is a container -/
def sCon (σ : zS) (p : Nat) : Bool := sConN σ p 40
def sShN (σ : zS) : Nat → Nat → Bool
  | 0, _ => false
  | n + 1, b => if b = n then decide (n = 0) || (sEx σ n && (decide (sSt σ n 18 = 0) && sShN σ n (sPa σ n))) else sShN σ n b
/-- whether it has a layout -/
def sSh (σ : zS) (b : Nat) : Bool := sShN σ 40 b
theorem sKidsN_mem {σ : zS} {p : Nat} : ∀ {n x : Nat}, x ∈ sKidsN σ p n ↔ x < n ∧ sV σ p x = true
  | 0, x => by simp [sKidsN]
  | n + 1, x => by
    unfold sKidsN
    split
    · rename_i h
      rw [zins_mem, sKidsN_mem]
      constructor
      · rintro (rfl | q)
        · exact ⟨Nat.lt_succ_self _, h⟩
        · exact ⟨Nat.lt_succ_of_lt q.1, q.2⟩
      · rintro ⟨q1, q2⟩
        by_cases e : x = n
        · exact Or.inl e
        · exact Or.inr ⟨by omega, q2⟩
    · rename_i h
      rw [sKidsN_mem]
      constructor
      · exact fun q => ⟨Nat.lt_succ_of_lt q.1, q.2⟩
      · rintro ⟨q1, q2⟩
        refine ⟨?_, q2⟩
        by_cases e : x = n
        · rw [e] at q2
          exact absurd q2 h
        · omega
theorem sKidsN_nodup {σ : zS} {p : Nat} : ∀ {n : Nat}, (sKidsN σ p n).Nodup
  | 0 => List.nodup_nil
  | n + 1 => by
    unfold sKidsN
    split
    · exact zins_nodup sKidsN_nodup (fun q => Nat.lt_irrefl _ (sKidsN_mem.mp q).1)
    · exact sKidsN_nodup
theorem sV_K {σ : zS} {p c : Nat} (h : sV σ p c = true) : sK σ p c = true := by
  unfold sV at h
  exact (Bool.and_eq_true _ _ ▸ h).1
theorem sK_iff {σ : zS} {p c : Nat} : sK σ p c = true ↔ c ≠ 0 ∧ sEx σ c = true ∧ sPa σ c = p := by
  unfold sK
  simp
theorem sV_iff {σ : zS} {p c : Nat} : sV σ p c = true ↔ c ≠ 0 ∧ sEx σ c = true ∧ sPa σ c = p ∧ sSt σ c 18 = 0 := by
  unfold sV
  rw [Bool.and_eq_true, sK_iff]
  simp
  constructor
  · rintro ⟨⟨a, b, c⟩, d⟩; exact ⟨a, b, c, d⟩
  · rintro ⟨a, b, c, d⟩; exact ⟨⟨a, b, c⟩, d⟩
theorem sShN_ge {σ : zS} : ∀ {n b : Nat}, n ≤ b → sShN σ n b = false
  | 0, _, _ => rfl
  | n + 1, b, h => by
    unfold sShN
    rw [if_neg (by omega), sShN_ge (by omega)]
theorem sShN_eq {σ : zS} {b : Nat} : ∀ {n : Nat}, b < n → sShN σ n b = sShN σ (b + 1) b
  | 0, h => absurd h (Nat.not_lt_zero _)
  | n + 1, h => by
    by_cases e : b = n
    · rw [e]
    · show (if b = n then _ else sShN σ n b) = _
      rw [if_neg e, sShN_eq (by omega)]
theorem sSh_eq {σ : zS} {b n : Nat} (h : b < n) (hn : n ≤ 40) : sShN σ n b = sSh σ b := by
  unfold sSh
  rw [sShN_eq h, sShN_eq (n := 40) (by omega)]
/-- the rule of 'shown' -/
theorem sSh_rule {σ : zS} (hw : sWF σ) {b : Nat} (h : b < 40) : sSh σ b = (decide (b = 0) || (sEx σ b && (decide (sSt σ b 18 = 0) && sSh σ (sPa σ b)))) := by
  rw [← sSh_eq (n := b + 1) (Nat.lt_succ_self _) (by omega)]
  show (if b = b then _ else _) = _
  rw [if_pos rfl]
  by_cases h0 : b = 0
  · simp [h0]
  · by_cases he : sEx σ b = true
    · rw [sSh_eq (n := b) (hw.2.2.2.2.1 b he h0).1 (by omega)]
    · simp [h0, he]
theorem sSh_0 {σ : zS} : sSh σ 0 = true := by
  rw [← sSh_eq (n := 1) (by decide) (by decide)]
  rfl
theorem sSh_ex {σ : zS} (hw : sWF σ) {b : Nat} (h : sSh σ b = true) : b < 40 ∧ sEx σ b = true := by
  have hb : b < 40 := by
    rcases Nat.lt_or_ge b 40 with q | q
    · exact q
    · unfold sSh at h
      rw [sShN_ge q] at h
      cases h
  refine ⟨hb, ?_⟩
  by_cases h0 : b = 0
  · rw [h0]; exact hw.1
  · rw [sSh_rule hw hb] at h
    simp [h0] at h
    exact h.1
theorem sKids_mem {σ : zS} (hw : sWF σ) {p x : Nat} : x ∈ sKids σ p ↔ sV σ p x = true := by
  unfold sKids
  rw [sKidsN_mem]
  constructor
  · exact fun q => q.2
  · exact fun q => ⟨Nat.lt_of_lt_of_le (hw.2.2.2.1 x (sV_iff.mp q).2.1) hw.2.2.1, q⟩
theorem sKids_lt {σ : zS} (hw : sWF σ) {p x : Nat} (h : x ∈ sKids σ p) : p < x ∧ x < 40 ∧ sEx σ x = true ∧ sPa σ x = p ∧ x ≠ 0 := by
  have h1 := sV_iff.mp ((sKids_mem hw).mp h)
  have h2 := hw.2.2.2.2.1 x h1.2.1 h1.1
  exact ⟨by rw [← h1.2.2.1]; exact h2.1, Nat.lt_of_lt_of_le (hw.2.2.2.1 x h1.2.1) hw.2.2.1, h1.2.1, h1.2.2.1, h1.1⟩
theorem sKids_sh {σ : zS} (hw : sWF σ) {p x : Nat} (hp : sSh σ p = true) (h : x ∈ sKids σ p) : sSh σ x = true := by
  have h1 := sKids_lt hw h
  have h2 := sV_iff.mp ((sKids_mem hw).mp h)
  rw [sSh_rule hw h1.2.1, h1.2.2.1, h1.2.2.2.1, hp]
  simp [h2.2.2.2]
theorem sKids_con {σ : zS} (hw : sWF σ) {p x : Nat} (h : x ∈ sKids σ p) : sCon σ p = true := by
  have h1 := sV_K ((sKids_mem hw).mp h)
  have key : ∀ n, x < n → sConN σ p n = true := by
    intro n
    induction n with
    | zero => exact fun q => absurd q (Nat.not_lt_zero _)
    | succ n ih =>
      intro q
      show (sConN σ p n || sK σ p n) = true
      by_cases e : x = n
      · rw [← e, h1, Bool.or_true]
      · rw [ih (by omega), Bool.true_or]
  exact key 40 (sKids_lt hw h).2.1
/-- a shown box but the root is among the children of its parent, which is shown -/
theorem sSh_kid {σ : zS} (hw : sWF σ) {b : Nat} (h : sSh σ b = true) (h0 : b ≠ 0) : b ∈ sKids σ (sPa σ b) ∧ sSh σ (sPa σ b) = true := by
  obtain ⟨hb, he⟩ := sSh_ex hw h
  rw [sSh_rule hw hb] at h
  simp [h0] at h
  exact ⟨(sKids_mem hw).mpr (sV_iff.mpr ⟨h0, he, rfl, h.2.1⟩), h.2.2⟩
/-- the class's memory holds the tree -/
def zTr (σ : zS) (I : Nat → Nat → Int32) (P : Nat → Nat → Option Nat) : Prop := sWF σ ∧ (∀ b, b < 40 → I b 0 = nI b) ∧ (∀ b, b < 40 → I b 2 = zB (sEx σ b)) ∧ (∀ b, sEx σ b = true → b ≠ 0 → P b 3 = some (sPa σ b)) ∧ P 0 3 = none ∧ (∀ b a, b < 40 → P b 3 = some a → a < 40) ∧ (∀ b k, sEx σ b = true → k < 20 → I (40 + b) k = sSt σ b k) ∧ I 81 2 = nI (sGv σ) ∧ I 81 3 = sVw σ ∧ I 81 4 = sVh σ
/-- .. and the links of link() -/
def zLk (σ : zS) (I : Nat → Nat → Int32) (P : Nat → Nat → Option Nat) : Prop := (∀ p, p < 40 → I p 4 = zB (sCon σ p) ∧ I p 5 = zB (sSh σ p) ∧ I p 8 = nI (sKids σ p).length ∧ zchain P (P p 6) (sKids σ p)) ∧ P 0 7 = none
end ZSP
