section ZMK
theorem sCon_t {σ : zS} {p c : Nat} (h : sK σ p c = true) (hc : c < 40) : sCon σ p = true := by
  have key : ∀ n, c < n → sConN σ p n = true := by
    intro n
    induction n with
    | zero => exact fun q => absurd q (Nat.not_lt_zero _)
    | succ n ih =>
      intro q
      show (sConN σ p n || sK σ p n) = true
      by_cases e : c = n
      · rw [← e, h, Bool.or_true]
      · rw [ih (by omega), Bool.true_or]
  exact key 40 hc
theorem sCon_f {σ : zS} (hw : sWF σ) {p : Nat} (h : sConN σ p (sGv σ) = false) : sCon σ p = false := by
  have e := sCon_ge hw (p := p) (d := 40 - sGv σ)
  rw [show sGv σ + (40 - sGv σ) = 40 by have := hw.2.2.1; omega, h] at e
  exact e
theorem zins_sorted {ord : Nat → Int32} {c : Nat} : ∀ {L : List Nat}, L.Pairwise (fun x y => ord x ≤ ord y) → (zins ord c L).Pairwise (fun x y => ord x ≤ ord y)
  | [], _ => List.pairwise_singleton _ _
  | x :: xs, h => by
    obtain ⟨h1, h2⟩ := List.pairwise_cons.mp h
    unfold zins
    split
    · rename_i q
      refine List.pairwise_cons.mpr ⟨fun y hy => ?_, zins_sorted h2⟩
      rcases zins_mem.mp hy with e | e
      · rw [e]; exact q
      · exact h1 y e
    · rename_i q
      have q' := Int32.not_le.mp q
      refine List.pairwise_cons.mpr ⟨fun y hy => ?_, h⟩
      rcases List.mem_cons.mp hy with e | e
      · rw [e]; exact Int32.le_of_lt q'
      · exact Int32.le_trans (Int32.le_of_lt q') (h1 y e)
theorem sKidsN_sorted {σ : zS} {p : Nat} : ∀ {n : Nat}, (sKidsN σ p n).Pairwise (fun x y => sSt σ x 17 ≤ sSt σ y 17)
  | 0 => List.Pairwise.nil
  | n + 1 => by
    unfold sKidsN
    split
    · exact zins_sorted (ord := fun x => sSt σ x 17) sKidsN_sorted
    · exact sKidsN_sorted
theorem zins_at {ord : Nat → Int32} {c : Nat} : ∀ {L : List Nat} {k : Nat}, L.Pairwise (fun x y => ord x ≤ ord y) → k ≤ L.length → (∀ i, k ≤ i → i < L.length → ord c < ord (L.getD i 0)) → (∀ j, k = j + 1 → ord (L.getD j 0) ≤ ord c) → zins ord c L = L.take k ++ c :: L.drop k
  | [], k, _, hk, _, _ => by
    have : k = 0 := Nat.le_zero.mp hk
    subst this
    rfl
  | x :: xs, 0, _, _, h1, _ => by
    have q : ord c < ord x := h1 0 (Nat.le_refl _) (Nat.succ_pos _)
    show (if ord x ≤ ord c then _ else _) = _
    rw [if_neg (Int32.not_le.mpr q)]
    rfl
  | x :: xs, k + 1, h, hk, h1, h2 => by
    obtain ⟨g1, g2⟩ := List.pairwise_cons.mp h
    have hk' : k ≤ xs.length := Nat.le_of_succ_le_succ hk
    have hx : ord x ≤ ord c := by
      cases k with
      | zero => exact h2 0 rfl
      | succ j =>
        have q := h2 (j + 1) rfl
        have hm : xs.getD j 0 ∈ xs := by
          rw [List.getD_eq_getElem?_getD, List.getElem?_eq_getElem (show j < xs.length by omega)]
          exact List.getElem_mem _
        exact Int32.le_trans (g1 _ hm) q
    show (if ord x ≤ ord c then x :: zins ord c xs else _) = _
    rw [if_pos hx, zins_at g2 hk' (fun i i1 i2 => by
      have := h1 (i + 1) (by omega) (by show i + 1 < xs.length + 1; omega)
      exact this) (fun j hj => by
      subst hj
      exact h2 (j + 1) rfl)]
    rfl
abbrev lk (σ : zS) (p c i : Nat) : Nat := (sKidsN σ p c).getD i 0
theorem lk_mem {σ : zS} (hw : sWF σ) {p c i : Nat} (hi : i < (sKidsN σ p c).length) : lk σ p c i < c ∧ sEx σ (lk σ p c i) = true := by
  have hm : lk σ p c i ∈ sKidsN σ p c := by
    unfold lk
    rw [List.getD_eq_getElem?_getD, List.getElem?_eq_getElem hi]
    exact List.getElem_mem _
  have := sKidsN_mem.mp hm
  exact ⟨this.1, (sV_iff.mp this.2).2.1⟩
theorem sKidsN_len {σ : zS} {p : Nat} : ∀ {n : Nat}, (sKidsN σ p n).length ≤ n
  | 0 => Nat.le_refl _
  | n + 1 => by
    have h := List.nodup_range (n := n + 1)
    have hs : ∀ x, x ∈ sKidsN σ p (n + 1) → x ∈ List.range (n + 1) := fun x hx => List.mem_range.mpr (sKidsN_mem.mp hx).1
    have := List.Nodup.length_le_of_subset (sKidsN_nodup (σ := σ) (p := p) (n := n + 1)) hs
    rw [List.length_range] at this
    exact this
theorem sKidsN_lo {σ : zS} (hw : sWF σ) {p n : Nat} (h : n ≤ p + 1) : sKidsN σ p n = [] := by
  apply List.eq_nil_iff_forall_not_mem.mpr
  intro x hx
  have h1 := sKidsN_mem.mp hx
  have h2 := sV_iff.mp h1.2
  have h3 := hw.2.2.2.2.1 x h2.2.1 h2.1
  rw [h2.2.2.1] at h3
  omega
theorem sKidsN_ge {σ : zS} (hw : sWF σ) {p : Nat} : ∀ {d : Nat}, sKidsN σ p (sGv σ + d) = sKidsN σ p (sGv σ)
  | 0 => rfl
  | d + 1 => by
    show (if sV σ p (sGv σ + d) = true then _ else sKidsN σ p (sGv σ + d)) = _
    rw [if_neg (fun q => by
      have := hw.2.2.2.1 _ (sV_iff.mp q).2.1
      omega)]
    exact sKidsN_ge hw
theorem sKids_gv {σ : zS} (hw : sWF σ) {p : Nat} : sKidsN σ p (sGv σ) = sKids σ p := by
  have e := sKidsN_ge hw (p := p) (d := 40 - sGv σ)
  rw [show sGv σ + (40 - sGv σ) = 40 by have := hw.2.2.1; omega] at e
  exact e.symm
/-- layKids ahead of the number c -/
def zlo (σ : zS) (p c : Nat) (I I' : Nat → Nat → Int32) : Prop := (∀ q j, q ≠ 99 → ¬ (q = 95 ∧ j = 5) → I' q j = I q j) ∧ I' 95 5 = nI (sKidsN σ p c).length ∧ ∀ k, k < (sKidsN σ p c).length → I' 99 k = nI (lk σ p c k)
/-- .. while c is on its way to its place -/
def zli (σ : zS) (p c k : Nat) (I I' : Nat → Nat → Int32) : Prop := (∀ q j, q ≠ 99 → ¬ (q = 95 ∧ j = 5) → I' q j = I q j) ∧ I' 95 5 = nI (sKidsN σ p c).length ∧ (∀ i, i < k → I' 99 i = nI (lk σ p c i)) ∧ (∀ i, k < i → i ≤ (sKidsN σ p c).length → I' 99 i = nI (lk σ p c (i - 1))) ∧ ∀ i, k ≤ i → i < (sKidsN σ p c).length → sSt σ c 17 < sSt σ (lk σ p c i) 17
theorem zli_0 {σ : zS} {p c : Nat} {I I' : Nat → Nat → Int32} (h : zlo σ p c I I') : zli σ p c (sKidsN σ p c).length I I' := ⟨h.1, h.2.1, h.2.2, fun i h1 h2 => by omega, fun i h1 h2 => by omega⟩
theorem zli_s {σ : zS} {p c j : Nat} {I I' : Nat → Nat → Int32} (h : zli σ p c (j + 1) I I') (hj : sSt σ c 17 < sSt σ (lk σ p c j) 17) : zli σ p c j I (z_u I' 99 (j + 1) (nI (lk σ p c j))) := by
  obtain ⟨h1, h2, h3, h4, h5⟩ := h
  refine ⟨fun q i hq h => by rw [z_u_a _ _ hq]; exact h1 q i hq h, by rw [z_u_a _ _ (by decide)]; exact h2, fun i hi => by rw [z_u_b _ _ (by omega)]; exact h3 i (by omega), fun i i1 i2 => ?_, fun i i1 i2 => ?_⟩
  · by_cases e : i = j + 1
    · rw [e, z_u_s]; rfl
    · rw [z_u_b _ _ e]; exact h4 i (by omega) i2
  · by_cases e : i = j
    · rw [e]; exact hj
    · exact h5 i (by omega) i2
theorem zli_end {σ : zS} {p c k : Nat} (hv : sV σ p c = true) (hk : k ≤ (sKidsN σ p c).length) {I I' : Nat → Nat → Int32} (h : zli σ p c k I I') (hj : ∀ j, k = j + 1 → sSt σ (lk σ p c j) 17 ≤ sSt σ c 17) {v : Int32} (hv2 : v = nI ((sKidsN σ p c).length + 1)) : zlo σ p (c + 1) I (z_u (z_u I' 99 k (nI c)) 95 5 v) := by
  obtain ⟨h1, h2, h3, h4, h5⟩ := h
  have e : sKidsN σ p (c + 1) = (sKidsN σ p c).take k ++ c :: (sKidsN σ p c).drop k := by
    show (if sV σ p c = true then zins (fun x => sSt σ x 17) c (sKidsN σ p c) else _) = _
    rw [if_pos hv]
    exact zins_at sKidsN_sorted hk h5 hj
  have hl : (sKidsN σ p (c + 1)).length = (sKidsN σ p c).length + 1 := by
    rw [e, List.length_append, List.length_cons, List.length_take, List.length_drop]
    omega
  have hlk : ∀ i, i < (sKidsN σ p c).length + 1 → lk σ p (c + 1) i = if i < k then lk σ p c i else if i = k then c else lk σ p c (i - 1) := fun i hi => by
    unfold lk
    rw [e]
    by_cases i1 : i < k
    · rw [if_pos i1, List.getD_eq_getElem?_getD, List.getElem?_append_left (by rw [List.length_take]; omega), List.getElem?_take_of_lt i1, ← List.getD_eq_getElem?_getD]
    · rw [if_neg i1, List.getD_eq_getElem?_getD, List.getElem?_append_right (by rw [List.length_take]; omega), List.length_take, Nat.min_eq_left hk]
      by_cases i2 : i = k
      · rw [if_pos i2, i2, Nat.sub_self]; rfl
      · rw [if_neg i2, show i - k = (i - 1 - k) + 1 by omega, List.getElem?_cons_succ, List.getElem?_drop, show k + (i - 1 - k) = i - 1 by omega, ← List.getD_eq_getElem?_getD]
  refine ⟨fun q i hq hh => by rw [z_u_r2 _ hh, z_u_a _ _ hq]; exact h1 q i hq hh, by rw [z_u_s, hl, hv2], fun i hi => ?_⟩
  rw [hl] at hi
  rw [z_u_a _ _ (by decide), hlk i hi]
  by_cases i1 : i < k
  · rw [if_pos i1, z_u_b _ _ (by omega)]; exact h3 i i1
  · rw [if_neg i1]
    by_cases i2 : i = k
    · rw [if_pos i2, i2, z_u_s]
    · rw [if_neg i2, z_u_b _ _ i2]; exact h4 i (by omega) (by omega)
theorem zlo_n {σ : zS} {p c : Nat} (hv : sV σ p c = false) {I I' : Nat → Nat → Int32} (h : zlo σ p c I I') : zlo σ p (c + 1) I I' := by
  have e : sKidsN σ p (c + 1) = sKidsN σ p c := by
    show (if sV σ p c = true then _ else sKidsN σ p c) = _
    rw [if_neg (by rw [hv]; decide)]
  unfold zlo lk at *
  rw [e]
  exact h
theorem zlo_0 {σ : zS} (hw : sWF σ) {p : Nat} (I : Nat → Nat → Int32) : zlo σ p (p + 1) I (z_u I 95 5 0) := by
  have e := sKidsN_lo hw (p := p) (Nat.le_refl (p + 1))
  refine ⟨fun q j h1 h2 => z_u_r2 _ h2, ?_, fun k hk => ?_⟩
  · rw [e, z_u_s]; rfl
  · rw [e] at hk
    exact absurd hk (Nat.not_lt_zero _)
/-- the kids of p are laid -/
def zKq (σ : zS) (p : Nat) (I : Nat → Nat → Int32) : Prop := I 95 5 = nI (kn σ p) ∧ ∀ k, k < kn σ p → I 99 k = nI (kd σ p k)
def zlkQ (σ : zS) (p : Nat) (I : Nat → Nat → Int32) (P : Nat → Nat → Option Nat) (J : Nat → Nat → Int64) : Option Value → (Nat → Nat → Int32) → (Nat → Nat → Option Nat) → (Nat → Nat → Int64) → Prop := fun v I' P' J' => v = none ∧ P' = P ∧ J' = J ∧ (∀ q j, q ≠ 99 → ¬ (q = 95 ∧ j = 5) → I' q j = I q j) ∧ zKq σ p I'
theorem zlo_end {σ : zS} (hw : sWF σ) {p : Nat} {I I' : Nat → Nat → Int32} {P : Nat → Nat → Option Nat} {J : Nat → Nat → Int64} (h : zlo σ p (sGv σ) I I') : zlkQ σ p I P J none I' P J := by
  refine ⟨rfl, rfl, rfl, h.1, ?_, fun k hk => ?_⟩
  · rw [h.2.1, sKids_gv hw]
  · rw [h.2.2 k (by rw [sKids_gv hw]; exact hk)]
    unfold lk kd
    rw [sKids_gv hw]
end ZMK
