section ZTL
theorem zK_ne {σ : zS} {p m : Nat} (h : sEx σ m = false) : sK σ p m = false := by
  unfold sK
  rw [h]
  simp
theorem zV_ne {σ : zS} {p m : Nat} (h : sK σ p m = false) : sV σ p m = false := by
  unfold sV
  rw [h]
  rfl
/-- the links while link() is at box n -/
def zLkN (σ : zS) (n : Nat) (I : Nat → Nat → Int32) (P : Nat → Nat → Option Nat) : Prop := (∀ p, p < 40 → I p 4 = zB (sConN σ p n) ∧ I p 5 = zB (sShN σ n p) ∧ I p 8 = nI (sKidsN σ p n).length ∧ zchain P (P p 6) (sKidsN σ p n)) ∧ P 0 7 = none
def zFrI (I I' : Nat → Nat → Int32) : Prop := ∀ a k, ¬ (a < 40 ∧ (k = 4 ∨ k = 5 ∨ k = 8)) → I' a k = I a k
def zFrP (P P' : Nat → Nat → Option Nat) : Prop := ∀ a k, ¬ (a < 40 ∧ (k = 6 ∨ k = 7)) → P' a k = P a k
def zunl (I : Nat → Nat → Int32) (n : Nat) : Nat → Nat → Int32 := fun a k => if a < n ∧ (k = 4 ∨ k = 5 ∨ k = 8) then 0 else I a k
def zunlP (P : Nat → Nat → Option Nat) (n : Nat) : Nat → Nat → Option Nat := fun a k => if a < n ∧ (k = 6 ∨ k = 7) then none else P a k
theorem zunl_0 (I : Nat → Nat → Int32) : zunl I 0 = I := by
  funext a k
  exact if_neg (fun h => Nat.not_lt_zero _ h.1)
theorem zunlP_0 (P : Nat → Nat → Option Nat) : zunlP P 0 = P := by
  funext a k
  exact if_neg (fun h => Nat.not_lt_zero _ h.1)
theorem zunl_s (I : Nat → Nat → Int32) (n : Nat) : z_u (z_u (z_u (zunl I n) n 4 0) n 5 0) n 8 0 = zunl I (n + 1) := by
  funext a k
  unfold z_u zunl
  by_cases h : a = n
  · subst h
    by_cases h4 : k = 4
    · simp [h4]
    · by_cases h5 : k = 5
      · simp [h5]
      · by_cases h8 : k = 8
        · simp [h8]
        · simp [h4, h5, h8]
  · have e : (a < n + 1) = (a < n) := by apply propext; omega
    simp [h, e]
theorem zunlP_s (P : Nat → Nat → Option Nat) (n : Nat) : z_u (z_u (zunlP P n) n 6 none) n 7 none = zunlP P (n + 1) := by
  funext a k
  unfold z_u zunlP
  by_cases h : a = n
  · subst h
    by_cases h4 : k = 6
    · simp [h4]
    · by_cases h5 : k = 7
      · simp [h5]
      · simp [h4, h5]
  · have e : (a < n + 1) = (a < n) := by apply propext; omega
    simp [h, e]
theorem zLkN_1 (σ : zS) (I : Nat → Nat → Int32) (P : Nat → Nat → Option Nat) : zLkN σ 1 (z_u (zunl I 40) 0 5 1) (zunlP P 40) ∧ zFrI I (z_u (zunl I 40) 0 5 1) ∧ zFrP P (zunlP P 40) := by
  have hk : ∀ p, sK σ p 0 = false := fun p => by unfold sK; rfl
  refine ⟨⟨fun p hp => ⟨?_, ?_, ?_, ?_⟩, ?_⟩, fun a k h => ?_, fun a k h => ?_⟩
  · show _ = zB (sConN σ p 0 || sK σ p 0)
    rw [hk, z_u_b _ _ (by decide)]
    unfold zunl
    rw [if_pos ⟨hp, Or.inl rfl⟩]
    rfl
  · show _ = zB (if p = 0 then decide (0 = 0) || _ else false)
    by_cases h0 : p = 0
    · subst h0
      rw [z_u_s]
      rfl
    · rw [z_u_a _ _ h0, if_neg h0]
      unfold zunl
      rw [if_pos ⟨hp, Or.inr (Or.inl rfl)⟩]
      rfl
  · have e : sKidsN σ p 1 = [] := by
      unfold sKidsN
      rw [if_neg (by rw [zV_ne (hk p)]; decide)]
      rfl
    rw [e, z_u_b _ _ (by decide)]
    unfold zunl
    rw [if_pos ⟨hp, Or.inr (Or.inr rfl)⟩]
    rfl
  · have e : sKidsN σ p 1 = [] := by
      unfold sKidsN
      rw [if_neg (by rw [zV_ne (hk p)]; decide)]
      rfl
    rw [e]
    show zunlP P 40 p 6 = none
    unfold zunlP
    rw [if_pos ⟨hp, Or.inl rfl⟩]
  · unfold zunlP
    rw [if_pos ⟨by decide, Or.inr rfl⟩]
  · have h1 : ¬ (a = 0 ∧ k = 5) := fun q => h ⟨by rw [q.1]; decide, Or.inr (Or.inl q.2)⟩
    unfold z_u zunl
    rw [if_neg h1, if_neg h]
  · unfold zunlP
    rw [if_neg h]
theorem zLkN_no {σ : zS} {m : Nat} {I : Nat → Nat → Int32} {P : Nat → Nat → Option Nat} (hm : 1 ≤ m) (he : sEx σ m = false) (h : zLkN σ m I P) : zLkN σ (m + 1) I P := by
  refine ⟨fun p hp => ?_, h.2⟩
  obtain ⟨h1, h2, h3, h4⟩ := h.1 p hp
  have e1 : sConN σ p (m + 1) = sConN σ p m := by
    show (sConN σ p m || sK σ p m) = _
    rw [zK_ne he, Bool.or_false]
  have e2 : sShN σ (m + 1) p = sShN σ m p := by
    show (if p = m then _ else _) = _
    by_cases q : p = m
    · rw [if_pos q, he, q, sShN_ge (Nat.le_refl _)]
      simp
      omega
    · rw [if_neg q]
  have e3 : sKidsN σ p (m + 1) = sKidsN σ p m := if_neg (by rw [zV_ne (zK_ne he)]; decide)
  rw [e1, e2, e3]
  exact ⟨h1, h2, h3, h4⟩
theorem zLkN_hid {σ : zS} {m : Nat} {I : Nat → Nat → Int32} {P : Nat → Nat → Option Nat} (hm : 1 ≤ m) (he : sEx σ m = true) (hh : ¬ sSt σ m 18 = 0) (h : zLkN σ m I P) : zLkN σ (m + 1) (z_u I (sPa σ m) 4 1) P := by
  refine ⟨fun p hp => ?_, h.2⟩
  obtain ⟨h1, h2, h3, h4⟩ := h.1 p hp
  have e2 : sShN σ (m + 1) p = sShN σ m p := by
    show (if p = m then _ else _) = _
    by_cases q : p = m
    · rw [if_pos q, q, sShN_ge (Nat.le_refl _)]
      simp [hh]
      omega
    · rw [if_neg q]
  have hv : ¬ sV σ p m = true := fun q => hh (sV_iff.mp q).2.2.2
  have e3 : sKidsN σ p (m + 1) = sKidsN σ p m := if_neg hv
  rw [e2, e3]
  refine ⟨?_, by rw [z_u_b _ _ (by decide)]; exact h2, by rw [z_u_b _ _ (by decide)]; exact h3, h4⟩
  show _ = zB (sConN σ p m || sK σ p m)
  by_cases q : p = sPa σ m
  · have : sK σ p m = true := sK_iff.mpr ⟨by omega, he, q.symm⟩
    rw [this, Bool.or_true, q, z_u_s]
    rfl
  · have : sK σ p m = false := by
      cases hq : sK σ p m with
      | false => rfl
      | true => exact absurd (sK_iff.mp hq).2.2.symm q
    rw [this, Bool.or_false, z_u_a _ _ q]
    exact h1
theorem zLkN_vis {σ : zS} (hw : sWF σ) {m : Nat} {I I2 : Nat → Nat → Int32} {P P2 : Nat → Nat → Option Nat} (hm : 1 ≤ m) (hm2 : m < 40) (he : sEx σ m = true) (hh : sSt σ m 18 = 0) (h : zLkN σ m I P)
    (hI : I2 = z_u (z_u (z_u I (sPa σ m) 4 1) m 5 (zB (sShN σ m (sPa σ m)))) (sPa σ m) 8 (I (sPa σ m) 8 + 1))
    (hc : zchain P2 (P2 (sPa σ m) 6) (zins (fun x => sSt σ x 17) m (sKidsN σ (sPa σ m) m)))
    (hf : ∀ x k, ¬ (x = sPa σ m ∧ k = 6) → ¬ (k = 7 ∧ (x ∈ sKidsN σ (sPa σ m) m ∨ x = m)) → P2 x k = P x k) : zLkN σ (m + 1) I2 P2 := by
  have hpa := hw.2.2.2.2.1 m he (by omega)
  refine ⟨fun p hp => ?_, ?_⟩
  · obtain ⟨h1, h2, h3, h4⟩ := h.1 p hp
    have e2 : zB (sShN σ (m + 1) p) = if p = m then zB (sShN σ m (sPa σ m)) else zB (sShN σ m p) := by
      show zB (if p = m then _ else _) = _
      by_cases q : p = m
      · rw [if_pos q, if_pos q, he, hh]
        have : decide (m = 0) = false := decide_eq_false (by omega)
        rw [this]
        simp
      · rw [if_neg q, if_neg q]
    rw [hI, e2]
    by_cases q : p = sPa σ m
    · have hk : sK σ p m = true := sK_iff.mpr ⟨by omega, he, q.symm⟩
      have hv : sV σ p m = true := sV_iff.mpr ⟨by omega, he, q.symm, hh⟩
      have e3 : sKidsN σ p (m + 1) = zins (fun x => sSt σ x 17) m (sKidsN σ p m) := if_pos hv
      have e1 : sConN σ p (m + 1) = true := by
        show (sConN σ p m || sK σ p m) = _
        rw [hk, Bool.or_true]
      rw [e1, e3]
      have hpm : p ≠ m := by omega
      refine ⟨?_, ?_, ?_, ?_⟩
      · rw [z_u_b _ _ (by decide), z_u_a _ _ hpm, q, z_u_s]
        rfl
      · rw [z_u_b _ _ (by decide), z_u_a _ _ hpm, z_u_b _ _ (by decide), if_neg hpm]
        exact h2
      · rw [← q, z_u_s, h3, zins_len]
        exact nI_1 _
      · rw [q]
        exact hc
    · have hk : sK σ p m = false := by
        cases hq : sK σ p m with
        | false => rfl
        | true => exact absurd (sK_iff.mp hq).2.2.symm q
      have e3 : sKidsN σ p (m + 1) = sKidsN σ p m := if_neg (by rw [zV_ne hk]; decide)
      have e1 : sConN σ p (m + 1) = sConN σ p m := by
        show (sConN σ p m || sK σ p m) = _
        rw [hk, Bool.or_false]
      rw [e1, e3]
      refine ⟨?_, ?_, ?_, ?_⟩
      · rw [z_u_b _ _ (by decide), z_u_b _ _ (by decide), z_u_a _ _ q]
        exact h1
      · rw [z_u_b _ _ (by decide)]
        by_cases q2 : p = m
        · rw [if_pos q2, q2, z_u_s]
        · rw [if_neg q2, z_u_a _ _ q2, z_u_b _ _ (by decide)]
          exact h2
      · rw [z_u_a _ _ q, z_u_b _ _ (by decide), z_u_b _ _ (by decide)]
        exact h3
      · rw [hf p 6 (fun z => q z.1) (fun z => by cases z.1)]
        refine zchain_congr (fun x hx => hf x 7 (fun z => by cases z.2) (fun z => ?_)) h4
        have hx1 := sKidsN_mem.mp hx
        have hx2 := sV_iff.mp hx1.2
        rcases z.2 with z2 | z2
        · exact q (hx2.2.2.1.symm.trans (sV_iff.mp (sKidsN_mem.mp z2).2).2.2.1)
        · omega
  · rw [hf 0 7 (fun z => by cases z.2) (fun z => ?_)]
    · exact h.2
    · rcases z.2 with z2 | z2
      · exact (sV_iff.mp (sKidsN_mem.mp z2).2).1 rfl
      · omega
/-- which boxes are left of a removal, when the boxes below n are done -/
def sCut (σ : zS) (t : Nat) : Nat → Nat → Bool
  | 0, b => sEx σ b && decide (b ≠ t)
  | n + 1, b => if b = n then sCut σ t n n && (decide (n ≤ t) || sCut σ t n (sPa σ n)) else sCut σ t n b
def sCutC (σ : zS) (t : Nat) : Nat → Int32
  | 0 => 1
  | n + 1 => if t < n ∧ sCut σ t n n = true ∧ sCut σ t n (sPa σ n) = false then sCutC σ t n + 1 else sCutC σ t n
theorem sCut_low {σ : zS} {t : Nat} : ∀ {n : Nat}, n ≤ t + 1 → sCut σ t n = sCut σ t 0 ∧ sCutC σ t n = 1
  | 0, _ => ⟨rfl, rfl⟩
  | n + 1, h => by
    obtain ⟨h1, h2⟩ := sCut_low (t := t) (n := n) (by omega)
    refine ⟨?_, ?_⟩
    · rw [← h1]
      funext b
      show (if b = n then _ else _) = _
      by_cases e : b = n
      · rw [if_pos e, e, decide_eq_true (show n ≤ t by omega), Bool.true_or, Bool.and_true]
      · rw [if_neg e]
    · show (if _ then _ else _) = _
      rw [if_neg (by omega), h2]
theorem sCut_sub {σ : zS} {t : Nat} : ∀ {n b : Nat}, sCut σ t n b = true → sEx σ b = true
  | 0, b, h => by
    unfold sCut at h
    exact (Bool.and_eq_true _ _ ▸ h).1
  | n + 1, b, h => by
    unfold sCut at h
    split at h
    · rename_i e
      rw [e]
      exact sCut_sub (Bool.and_eq_true _ _ ▸ h).1
    · exact sCut_sub h
/-- I, but who exists as f has it -/
def zex (I : Nat → Nat → Int32) (f : Nat → Bool) : Nat → Nat → Int32 := fun a k => if a < 40 ∧ k = 2 then zB (f a) else I a k
theorem zex_at (I : Nat → Nat → Int32) (f : Nat → Bool) {a : Nat} (h : a < 40) : zex I f a 2 = zB (f a) := if_pos ⟨h, rfl⟩
theorem zex_k (I : Nat → Nat → Int32) (f : Nat → Bool) {a k : Nat} (h : k ≠ 2) : zex I f a k = I a k := if_neg (fun q => h q.2)
theorem zex_u (I : Nat → Nat → Int32) (f : Nat → Bool) {m : Nat} (h : m < 40) (c : Bool) : z_u (zex I f) m 2 (zB c) = zex I (fun b => if b = m then c else f b) := by
  funext a k
  unfold z_u zex
  by_cases h1 : a = m
  · by_cases h2 : k = 2
    · subst h1; subst h2
      simp [h]
    · simp [h2]
  · simp [h1]
theorem zex_id {σ : zS} {I : Nat → Nat → Int32} {P : Nat → Nat → Option Nat} (h : zTr σ I P) : zex I (sEx σ) = I := by
  funext a k
  unfold zex
  split
  · rename_i q
    rw [q.2, h.2.2.1 a q.1]
  · rfl
theorem sCut_keep {σ : zS} {t m : Nat} (h : sCut σ t m m = false ∨ sCut σ t m (sPa σ m) = true) : sCut σ t (m + 1) = sCut σ t m ∧ sCutC σ t (m + 1) = sCutC σ t m := by
  refine ⟨?_, ?_⟩
  · funext b
    show (if b = m then _ else _) = _
    by_cases e : b = m
    · rw [if_pos e, e]
      rcases h with h | h
      · rw [h, Bool.false_and]
      · rw [h, Bool.or_true, Bool.and_true]
    · rw [if_neg e]
  · show (if _ then _ else _) = _
    rw [if_neg]
    rintro ⟨_, h1, h2⟩
    rcases h with h | h
    · rw [h] at h1; cases h1
    · rw [h] at h2; cases h2
theorem sCut_drop {σ : zS} {t m : Nat} (ht : t < m) (h1 : sCut σ t m m = true) (h2 : sCut σ t m (sPa σ m) = false) : sCut σ t (m + 1) = (fun b => if b = m then false else sCut σ t m b) ∧ sCutC σ t (m + 1) = sCutC σ t m + 1 := by
  refine ⟨?_, ?_⟩
  · funext b
    show (if b = m then _ else _) = _
    by_cases e : b = m
    · rw [if_pos e, if_pos e, h2, decide_eq_false (by omega)]
      simp
    · rw [if_neg e, if_neg e]
  · exact if_pos ⟨ht, h1, h2⟩
/-- how many exist among the boxes below n -/
def sCnt (f : Nat → Bool) : Nat → Int32
  | 0 => 0
  | n + 1 => if f n = true then sCnt f n + 1 else sCnt f n
def zshn (I : Nat → Nat → Int32) (k : Nat) : Option Nat := if I k 2 = 0 then none else if I k 5 = 0 then none else some k
end ZTL
