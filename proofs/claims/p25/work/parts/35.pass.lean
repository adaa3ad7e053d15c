section ZPS
def zGeo (fl : List Nat) (I I' : Nat → Nat → Int32) : Prop := ∀ q j, ¬ (j ∈ fl ∧ q < 40) → ¬ (q = 83 ∧ (j = 9 ∨ j = 10)) → ¬ (86 ≤ q ∧ q ≤ 94) → I' q j = I q j
theorem zGeo.rf {fl : List Nat} {I : Nat → Nat → Int32} : zGeo fl I I := fun _ _ _ _ _ => rfl
theorem zGeo.lay {fl : List Nat} {I I' : Nat → Nat → Int32} (h : zGeo fl I I') (hf : ∀ j ∈ fl, 9 ≤ j) : zLay I I' := fun q j hk => h q j (fun z => by
  have := hf j z.1
  unfold zKeep at hk
  omega) (fun z => by unfold zKeep at hk; omega) (fun z => by unfold zKeep at hk; omega)
theorem zGeo.oth {fl : List Nat} {I I' : Nat → Nat → Int32} (h : zGeo fl I I') {q j : Nat} (hq : q < 40) (hj : j ∉ fl) : I' q j = I q j := h q j (fun z => hj z.1) (by omega) (by omega)
theorem zGeo.u {fl : List Nat} {I I' : Nat → Nat → Int32} (h : zGeo fl I I') {i k : Nat} (hi : i < 40) (hk : k ∈ fl) (v : Int32) : zGeo fl I (z_u I' i k v) := fun q j h1 h2 h3 => by
  rw [z_u_r2 _ (fun z => h1 ⟨by rw [z.2]; exact hk, by rw [z.1]; exact hi⟩)]
  exact h q j h1 h2 h3
theorem zGeo.hi {fl : List Nat} {I I' : Nat → Nat → Int32} (h : zGeo fl I I') {q : Nat} (hq : 95 ≤ q) (j : Nat) : I' q j = I q j := h q j (by omega) (by omega) (by omega)
theorem zTr_link {σ : zS} {I I' : Nat → Nat → Int32} {P P' : Nat → Nat → Option Nat} (h : zTr σ I P) (hi : zFrI I I') (hp : zFrP P P') : zTr σ I' P' := by
  obtain ⟨h1, h2, h3, h4, h5, h6, h7, h8, h9, h10⟩ := h
  refine ⟨h1, fun b hb => ?_, fun b hb => ?_, fun b he h0 => ?_, ?_, fun b a hb ha => ?_, fun b k hb hk => ?_, ?_, ?_, ?_⟩
  · rw [hi b 0 (by omega)]; exact h2 b hb
  · rw [hi b 2 (by omega)]; exact h3 b hb
  · rw [hp b 3 (by omega)]; exact h4 b he h0
  · rw [hp 0 3 (by omega)]; exact h5
  · rw [hp b 3 (by omega)] at ha; exact h6 b a hb ha
  · rw [hi (40 + b) k (by omega)]; exact h7 b k hb hk
  · rw [hi 81 2 (by omega)]; exact h8
  · rw [hi 81 3 (by omega)]; exact h9
  · rw [hi 81 4 (by omega)]; exact h10
def zsh (σ : zS) (k : Nat) : Option Nat := if sSh σ k = true then some k else none
theorem zsh_t {σ : zS} {k : Nat} (h : zsh σ k = none) : ¬ sSh σ k = true := fun q => by
  unfold zsh at h
  rw [if_pos q] at h
  cases h
theorem zsh_f {σ : zS} {k a : Nat} (h : zsh σ k = some a) : a = k ∧ sSh σ k = true := by
  unfold zsh at h
  split at h
  · rename_i q
    cases h
    exact ⟨rfl, q⟩
  · cases h
theorem zshn_S {σ : zS} {I : Nat → Nat → Int32} {P : Nat → Nat → Option Nat} (ht : zTr σ I P) (hl : zLk σ I P) {k : Nat} (hk : k < 40) : zshn I k = zsh σ k := by
  unfold zshn zsh
  rw [ht.2.2.1 k hk, (hl.1 k hk).2.1]
  by_cases h : sSh σ k = true
  · rw [if_pos h, h, (sSh_ex ht.1 h).2]
    rfl
  · rw [if_neg h]
    have h2 : sSh σ k = false := by simpa using h
    rw [h2]
    split
    · rfl
    · rfl
theorem kSX4_shownAt (lx : Launch) (g : zG) (N : Nat) (I : Nat → Nat → Int32) (P : Nat → Nat → Option Nat) (J : Nat → Nat → Int64) {σ : zS} (ht : zTr σ I P) (hl : zLk σ I P) (k : Nat) (hk : k < 40) : z_Ct lx yX4_shownAt (zT yX4_shownAt cX4_shownAt 3 (Option.some (FieldType.object "FlexibleBoxes$Box"))) ({ frames := 1, cells := 0, slots := 0, locals := 21 } : Room) g N I P J [.ref (g.1 81), .int (nI k)] (zMu (some (va_rf (Option.map g.1 (zsh σ k)))) I P J) 0 0 := by
  have q := kX4_shownAt lx g N I P J k hk (nI k) rfl
  rw [zshn_S ht hl hk] at q
  exact q
theorem zdec (k : Nat) : nI (k + 1) + (-1) = nI k := by
  rw [← nI_1, Int32.add_assoc]
  exact Int32.add_zero _
theorem zdec_t {n : Nat} (hn : n ≤ 40) (h : nI n + (-1) < 0) : n = 0 := by
  cases n with
  | zero => rfl
  | succ k =>
    rw [zdec] at h
    exact absurd h (nI_pos (by omega))
theorem zdec_f {n : Nat} (h : ¬ nI n + (-1) < 0) : ∃ k, n = k + 1 := by
  cases n with
  | zero => exact absurd (by decide) h
  | succ k => exact ⟨k, rfl⟩
/-- pass 1: the widths, upward -/
def zA1 (σ : zS) (n : Nat) (I Ir : Nat → Nat → Int32) : Prop := zGeo [10] I Ir ∧ ∀ b, n ≤ b → sSh σ b = true → Ir b 10 = sNW σ b
theorem zA1_0 {σ : zS} (hw : sWF σ) (I : Nat → Nat → Int32) : zA1 σ 40 I I := ⟨zGeo.rf, fun b hb h => absurd (sSh_ex hw h).1 (by omega)⟩
theorem zA1_n {σ : zS} {k : Nat} {I Ir : Nat → Nat → Int32} (h : zA1 σ (k + 1) I Ir) (hs : ¬ sSh σ k = true) : zA1 σ k I Ir := ⟨h.1, fun b hb q => h.2 b (by
  by_cases e : b = k
  · rw [e] at q; exact absurd q hs
  · omega) q⟩
theorem zA1_s {σ : zS} {k : Nat} (hk : k < 40) {I Ir : Nat → Nat → Int32} (h : zA1 σ (k + 1) I Ir) {v : Int32} (hv : v = sNW σ k) : zA1 σ k I (z_u Ir k 10 v) := ⟨h.1.u hk (by simp) v, fun b hb q => by
  by_cases e : b = k
  · rw [e, z_u_s, hv]
  · rw [z_u_a _ _ e]; exact h.2 b (by omega) q⟩
theorem zA1_kid {σ : zS} (hw : sWF σ) {k : Nat} {I Ir : Nat → Nat → Int32} (h : zA1 σ (k + 1) I Ir) (hs : sSh σ k = true) : ∀ c, c ∈ sKids σ k → Ir c 10 = sNW σ c := fun c hc => h.2 c (sKids_lt hw hc).1 (sKids_sh hw hs hc)
/-- pass 2: the widths, downward -/
def zA2 (σ : zS) (i : Nat) (I Ir : Nat → Nat → Int32) : Prop := zGeo [14, 16, 17] I Ir ∧ Ir 0 14 = sVw σ ∧ Ir 0 17 = I 0 17 ∧ ∀ p, p < i → sSh σ p = true → Ir p 16 = nI (sLCn σ (sNW σ) p (sWD σ p)) ∧ ∀ k c, (sKids σ p)[k]? = some c → Ir c 14 = sWD σ c ∧ Ir c 17 = nI (sLn σ (sNW σ) p (sWD σ p) k)
theorem zA2_0 {σ : zS} {I : Nat → Nat → Int32} (h : I 0 14 = sVw σ) : zA2 σ 0 I I := ⟨zGeo.rf, h, rfl, fun p hp => absurd hp (Nat.not_lt_zero _)⟩
theorem zA2_n {σ : zS} {k : Nat} {I Ir : Nat → Nat → Int32} (h : zA2 σ k I Ir) (hs : ¬ sSh σ k = true) : zA2 σ (k + 1) I Ir := ⟨h.1, h.2.1, h.2.2.1, fun p hp q => h.2.2.2 p (by
  by_cases e : p = k
  · rw [e] at q; exact absurd q hs
  · omega) q⟩
theorem sKid_at {σ : zS} (hw : sWF σ) {b : Nat} (h : sSh σ b = true) (h0 : b ≠ 0) : (sKids σ (sPa σ b))[sIx σ b]? = some b ∧ sPa σ b < b ∧ sSh σ (sPa σ b) = true := by
  have q := sSh_kid hw h h0
  have h1 : (sKids σ (sPa σ b)).idxOf b < (sKids σ (sPa σ b)).length := List.idxOf_lt_length_of_mem q.1
  refine ⟨?_, (sKids_lt hw q.1).1, q.2⟩
  unfold sIx
  rw [List.getElem?_eq_getElem h1, List.getElem_idxOf]
theorem zA2_W {σ : zS} (hw : sWF σ) {i : Nat} {I Ir : Nat → Nat → Int32} (h : zA2 σ i I Ir) {b : Nat} (hb : b ≤ i) (hs : sSh σ b = true) : Ir b 14 = sWD σ b := by
  by_cases e : b = 0
  · rw [e, h.2.1]; rfl
  · have q := sKid_at hw hs e
    exact ((h.2.2.2 (sPa σ b) (by omega) q.2.2).2 _ _ q.1).1
theorem zA2_s {σ : zS} (hw : sWF σ) {p : Nat} (hp : p < 40) {I Ir I' : Nat → Nat → Int32} {P P' : Nat → Nat → Option Nat} {J J' : Nat → Nat → Int64} {v : Option Value} (h : zA2 σ p I Ir) (hs : sSh σ p = true) (hq : zsprQ σ (sNW σ) p (sWD σ p) Ir P J v I' P' J') : zA2 σ (p + 1) I I' := by
  obtain ⟨_, _, _, hf, hk, hc⟩ := hq
  refine ⟨fun q j h1 h2 h3 => ?_, ?_, ?_, fun r hr q => ?_⟩
  · rw [hf q j (fun z => h1 ⟨by rcases z.1 with e | e <;> rw [e] <;> simp, (sKids_lt hw z.2).2.1⟩) (fun z => h1 ⟨by rw [z.2]; simp, by omega⟩) h2 h3]
    exact h.1 q j h1 h2 h3
  · rw [hf 0 14 (fun z => absurd rfl (sKids_lt hw z.2).2.2.2.2) (by omega) (by omega) (by omega)]
    exact h.2.1
  · rw [hf 0 17 (fun z => absurd rfl (sKids_lt hw z.2).2.2.2.2) (by omega) (by omega) (by omega)]
    exact h.2.2.1
  · by_cases e : r = p
    · subst e
      refine ⟨hc, fun k c hkc => ⟨?_, (hk k c hkc).2⟩⟩
      rw [(hk k c hkc).1, ← (sKids_get hkc).1, sWD_kd hw (sKids_get hkc).2.1]
    · have q2 := h.2.2.2 r (by omega) q
      have r40 : r < 40 := by omega
      refine ⟨?_, fun k c hkc => ?_⟩
      · rw [hf r 16 (fun z => absurd z.1 (by decide)) (by omega) (by omega) (by omega)]
        exact q2.1
      · have hcm := sKids_lt hw (List.mem_of_getElem? hkc)
        have hnm : c ∉ sKids σ p := fun z => e ((hcm.2.2.2.1).symm.trans (sKids_lt hw z).2.2.2.1)
        rw [hf c 14 (fun z => hnm z.2) (by omega) (by omega) (by omega), hf c 17 (fun z => hnm z.2) (by omega) (by omega) (by omega)]
        exact q2.2 k c hkc
/-- pass 3: the heights, upward -/
def zA3 (σ : zS) (n : Nat) (I Ir : Nat → Nat → Int32) : Prop := zGeo [11, 16] I Ir ∧ (∀ b, b < n → Ir b 16 = I b 16) ∧ ∀ b, n ≤ b → sSh σ b = true → Ir b 11 = sNH σ b ∧ Ir b 16 = sLC σ (sNW σ) b (sWD σ b)
theorem zA3_0 {σ : zS} (hw : sWF σ) (I : Nat → Nat → Int32) : zA3 σ 40 I I := ⟨zGeo.rf, fun _ _ => rfl, fun b hb h => absurd (sSh_ex hw h).1 (by omega)⟩
theorem zA3_n {σ : zS} {k : Nat} {I Ir : Nat → Nat → Int32} (h : zA3 σ (k + 1) I Ir) (hs : ¬ sSh σ k = true) : zA3 σ k I Ir := ⟨h.1, fun b hb => h.2.1 b (by omega), fun b hb q => h.2.2 b (by
  by_cases e : b = k
  · rw [e] at q; exact absurd q hs
  · omega) q⟩
theorem zA3_s {σ : zS} {k : Nat} (hk : k < 40) {I Ir : Nat → Nat → Int32} (h : zA3 σ (k + 1) I Ir) {v : Int32} (hv : v = sNH σ k) : zA3 σ k I (z_u (z_u Ir k 16 (sLC σ (sNW σ) k (sWD σ k))) k 11 v) := ⟨(h.1.u hk (by simp) _).u hk (by simp) v, fun b hb => by
    rw [z_u_a _ _ (by omega), z_u_a _ _ (by omega)]
    exact h.2.1 b (by omega), fun b hb q => by
  by_cases e : b = k
  · rw [e, z_u_s, hv, z_u_b _ _ (by decide), z_u_s]; exact ⟨rfl, rfl⟩
  · rw [z_u_a _ _ e, z_u_a _ _ e, z_u_a _ _ e, z_u_a _ _ e]; exact h.2.2 b (by omega) q⟩
theorem zA3_kid {σ : zS} (hw : sWF σ) {k : Nat} {I Ir : Nat → Nat → Int32} (h : zA3 σ (k + 1) I Ir) (hs : sSh σ k = true) : ∀ c, c ∈ sKids σ k → Ir c 11 = sNH σ c := fun c hc => (h.2.2 c (sKids_lt hw hc).1 (sKids_sh hw hs hc)).1
/-- pass 4: the places -/
def zA4 (σ : zS) (i : Nat) (I Ir : Nat → Nat → Int32) : Prop := zGeo [12, 13, 15] I Ir ∧ Ir 0 15 = sVh σ ∧ Ir 0 12 = 0 ∧ Ir 0 13 = 0 ∧ ∀ p, p < i → sSh σ p = true → ∀ (k c : Nat), (sKids σ p)[k]? = some c → Ir c 15 = sHT σ c ∧ Ir c 12 = sX σ c ∧ Ir c 13 = sY σ c
theorem zA4_0 {σ : zS} {I : Nat → Nat → Int32} (h : I 0 15 = sVh σ) (h1 : I 0 12 = 0) (h2 : I 0 13 = 0) : zA4 σ 0 I I := ⟨zGeo.rf, h, h1, h2, fun p hp => absurd hp (Nat.not_lt_zero _)⟩
theorem zA4_n {σ : zS} {k : Nat} {I Ir : Nat → Nat → Int32} (h : zA4 σ k I Ir) (hs : ¬ sSh σ k = true) : zA4 σ (k + 1) I Ir := ⟨h.1, h.2.1, h.2.2.1, h.2.2.2.1, fun p hp q => h.2.2.2.2 p (by
  by_cases e : p = k
  · rw [e] at q; exact absurd q hs
  · omega) q⟩
theorem zA4_W {σ : zS} (hw : sWF σ) {i : Nat} {I Ir : Nat → Nat → Int32} (h : zA4 σ i I Ir) {b : Nat} (hb : b ≤ i) (hs : sSh σ b = true) : Ir b 15 = sHT σ b ∧ Ir b 12 = sX σ b ∧ Ir b 13 = sY σ b := by
  by_cases e : b = 0
  · rw [e, h.2.1, h.2.2.1, h.2.2.2.1]; exact ⟨rfl, rfl, rfl⟩
  · have q := sKid_at hw hs e
    exact h.2.2.2.2 (sPa σ b) (by omega) q.2.2 _ _ q.1
theorem zA4_s {σ : zS} (hw : sWF σ) {p : Nat} (hp : p < 40) {I Ir I' : Nat → Nat → Int32} {P P' : Nat → Nat → Option Nat} {J J' : Nat → Nat → Int64} {v : Option Value} (h : zA4 σ p I Ir) (hs : sSh σ p = true) (hq : zplcQ σ p Ir P J v I' P' J') : zA4 σ (p + 1) I I' := by
  obtain ⟨_, _, _, hf, hk⟩ := hq
  have hpp := zA4_W hw h (Nat.le_refl p) hs
  have f0 : ∀ j, I' 0 j = Ir 0 j := fun j => hf 0 j (fun z => absurd rfl (sKids_lt hw z.2).2.2.2.2) (by omega) (by omega)
  refine ⟨fun q j h1 h2 h3 => ?_, ?_, ?_, ?_, fun r hr q => ?_⟩
  · rw [hf q j (fun z => h1 ⟨by rcases z.1 with e | e | e <;> rw [e] <;> simp, (sKids_lt hw z.2).2.1⟩) h2 h3]
    exact h.1 q j h1 h2 h3
  · rw [f0]; exact h.2.1
  · rw [f0]; exact h.2.2.1
  · rw [f0]; exact h.2.2.2.1
  · by_cases e : r = p
    · subst e
      intro k c hkc
      obtain ⟨e1, e2, e3⟩ := hk k c hkc
      have hg := sKids_get hkc
      rw [e1, e2, e3, hpp.2.1, hpp.2.2, ← hg.1, sHT_kd hw hg.2.1, sX_kd hw hg.2.1, sY_kd hw hg.2.1]
      exact ⟨rfl, rfl, rfl⟩
    · intro k c hkc
      have hcm := sKids_lt hw (List.mem_of_getElem? hkc)
      have hnm : c ∉ sKids σ p := fun z => e ((hcm.2.2.2.1).symm.trans (sKids_lt hw z).2.2.2.1)
      rw [hf c 15 (fun z => hnm z.2) (by omega) (by omega), hf c 12 (fun z => hnm z.2) (by omega) (by omega), hf c 13 (fun z => hnm z.2) (by omega) (by omega)]
      exact h.2.2.2.2 r (by omega) q k c hkc
/-- the whole layout -/
def sLi (σ : zS) (b : Nat) : Nat := if b = 0 then 0 else sLn σ (sNW σ) (sPa σ b) (sWD σ (sPa σ b)) (sIx σ b)
def zAr (σ : zS) (I : Nat → Nat → Int32) (P : Nat → Nat → Option Nat) : Prop := zLk σ I P ∧ ∀ b, sSh σ b = true → I b 10 = sNW σ b ∧ I b 11 = sNH σ b ∧ I b 12 = sX σ b ∧ I b 13 = sY σ b ∧ I b 14 = sWD σ b ∧ I b 15 = sHT σ b ∧ I b 16 = sLC σ (sNW σ) b (sWD σ b) ∧ I b 17 = nI (sLi σ b)
def zRt (I : Nat → Nat → Int32) : Prop := I 0 12 = 0 ∧ I 0 13 = 0 ∧ I 0 17 = 0
def zArQ (σ : zS) (I : Nat → Nat → Int32) (P : Nat → Nat → Option Nat) (J : Nat → Nat → Int64) : Option Value → (Nat → Nat → Int32) → (Nat → Nat → Option Nat) → (Nat → Nat → Int64) → Prop := fun v I' P' J' => v = none ∧ J' = J ∧ zTr σ I' P' ∧ zAr σ I' P' ∧ I' 82 2 = 0 ∧ zRt I' ∧ (∀ q j, 95 ≤ q → I' q j = I q j) ∧ zFrP P P'
theorem zAr_end {σ : zS} {I I1 Ia Ib Ic Id : Nat → Nat → Int32} {P P' : Nat → Nat → Option Nat} {J : Nat → Nat → Int64} (hr : zRt I) (ht1 : zTr σ I1 P') (hl1 : zLk σ I1 P') (hi : zFrI (z_u I 82 2 0) I1) (hp : zFrP P P') (h1 : zA1 σ 0 I1 Ia) (h2 : zA2 σ 40 (z_u Ia 0 14 (sVw σ)) Ib) (h3 : zA3 σ 0 Ib Ic) (h4 : zA4 σ 40 (z_u Ic 0 15 (sVh σ)) Id) : zArQ σ I P J none Id P' J := by
  have hw := ht1.1
  have l1 : zLay I1 Ia := h1.1.lay (by decide)
  have l2 : zLay Ia (z_u Ia 0 14 (sVw σ)) := zLay.rf.u (zNK (by decide) (by decide))
  have l3 : zLay (z_u Ia 0 14 (sVw σ)) Ib := h2.1.lay (by decide)
  have l4 : zLay Ib Ic := h3.1.lay (by decide)
  have l5 : zLay Ic (z_u Ic 0 15 (sVh σ)) := zLay.rf.u (zNK (by decide) (by decide))
  have l6 : zLay (z_u Ic 0 15 (sVh σ)) Id := h4.1.lay (by decide)
  have l := ((((l1.tr l2).tr l3).tr l4).tr l5).tr l6
  have e17 : ∀ b, b < 40 → Id b 17 = Ib b 17 := fun b hb => by rw [h4.1.oth hb (by decide), z_u_b _ _ (by decide), h3.1.oth hb (by decide)]
  have r17 : Id 0 17 = 0 := by
    rw [e17 0 (by decide), h2.2.2.1, z_u_b _ _ (by decide), h1.1.oth (by decide) (by decide), hi 0 17 (by omega), z_u_a _ _ (by decide)]
    exact hr.2.2
  refine ⟨rfl, rfl, ht1.lay l, ⟨hl1.lay l, fun b hb => ?_⟩, ?_, ⟨h4.2.2.1, h4.2.2.2.1, r17⟩, fun q j hq => ?_, hp⟩
  · have b40 := (sSh_ex hw hb).1
    have q4 := zA4_W hw h4 (Nat.le_of_lt b40) hb
    have q3 := h3.2.2 b (Nat.zero_le _) hb
    refine ⟨?_, ?_, q4.2.1, q4.2.2, ?_, q4.1, ?_, ?_⟩
    · rw [h4.1.oth b40 (by decide), z_u_b _ _ (by decide), h3.1.oth b40 (by decide), h2.1.oth b40 (by decide), z_u_b _ _ (by decide)]
      exact h1.2 b (Nat.zero_le _) hb
    · rw [h4.1.oth b40 (by decide), z_u_b _ _ (by decide)]
      exact q3.1
    · rw [h4.1.oth b40 (by decide), z_u_b _ _ (by decide), h3.1.oth b40 (by decide)]
      exact zA2_W hw h2 (Nat.le_of_lt b40) hb
    · rw [h4.1.oth b40 (by decide), z_u_b _ _ (by decide)]
      exact q3.2
    · unfold sLi
      by_cases e : b = 0
      · rw [if_pos e, e, r17]; rfl
      · have q := sKid_at hw hb e
        rw [if_neg e, e17 b b40]
        exact ((h2.2.2.2 (sPa σ b) (by omega) q.2.2).2 _ _ q.1).2
  · rw [h4.1 82 2 (by omega) (by omega) (by omega), z_u_a _ _ (by decide), h3.1 82 2 (by omega) (by omega) (by omega), h2.1 82 2 (by omega) (by omega) (by omega), z_u_a _ _ (by decide), h1.1 82 2 (by omega) (by omega) (by omega), hi 82 2 (by omega), z_u_s]
  · rw [h4.1.hi hq, z_u_a _ _ (by omega), h3.1.hi hq, h2.1.hi hq, z_u_a _ _ (by omega), h1.1.hi hq, hi q j (by omega), z_u_a _ _ (by omega)]
end ZPS
