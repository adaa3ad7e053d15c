section ZMC
/-- the at-array with n places from o on as f has them -/
def zmr (f : Nat → Int32) (I : Nat → Nat → Int32) (o n : Nat) : Nat → Nat → Int32 := fun a j => if a = 96 ∧ o ≤ j ∧ j < o + n then f (j - o) else I a j
theorem zmr_0 (f : Nat → Int32) (I : Nat → Nat → Int32) (o : Nat) : zmr f I o 0 = I := by
  funext a j
  exact if_neg (fun h => by omega)
theorem zmr_s (f : Nat → Int32) (I : Nat → Nat → Int32) (o n : Nat) {v : Int32} (hv : v = f n) : z_u (zmr f I o n) 96 (o + n) v = zmr f I o (n + 1) := by
  subst hv
  funext a j
  unfold z_u zmr
  by_cases h : a = 96 ∧ j = o + n
  · rw [if_pos h, if_pos ⟨h.1, by omega, by omega⟩, h.2, Nat.add_sub_cancel_left]
  · rw [if_neg h]
    by_cases h2 : a = 96 ∧ o ≤ j ∧ j < o + n
    · rw [if_pos h2, if_pos ⟨h2.1, h2.2.1, by omega⟩]
    · rw [if_neg h2, if_neg (fun q => h2 ⟨q.1, q.2.1, by
        have : j ≠ o + n := fun e => h ⟨q.1, e⟩
        omega⟩)]
theorem zmr_o (f : Nat → Int32) (I : Nat → Nat → Int32) {o n a j : Nat} (h : ¬ (a = 96 ∧ o ≤ j ∧ j < o + n)) : zmr f I o n a j = I a j := if_neg h
theorem zMd_add {σ : zS} {I : Nat → Nat → Int32} (h : zMd σ I) {p : Nat} (hp : sEx σ p = true) (hg : sGv σ < 40) : zMd (sAdd σ p) (z_u (zmr (z_st 2) (z_u I 96 (3 + sGv σ) (nI p)) (43 + 20 * sGv σ) 20) 96 0 (nI (sGv σ) + 1)) := by
  have hpl := h.lt hp
  obtain ⟨h1, h2, h3, h4, h5, h6⟩ := h
  obtain ⟨w1, w2, w3, w4, w5, w6, w7, w8⟩ := h1
  have row : ∀ j, j < 43 → z_u (zmr (z_st 2) (z_u I 96 (3 + sGv σ) (nI p)) (43 + 20 * sGv σ) 20) 96 0 (nI (sGv σ) + 1) 96 j = z_u (z_u I 96 (3 + sGv σ) (nI p)) 96 0 (nI (sGv σ) + 1) 96 j := fun j hj => by
    by_cases e : j = 0
    · rw [e, z_u_s, z_u_s]
    · rw [z_u_b _ _ e, z_u_b _ _ e, zmr_o _ _ (fun q => by omega)]
  refine ⟨⟨?_, ?_, ?_, fun b hb => ?_, fun b hb h0 => ?_, fun b hb j hj => ?_, w7, w8⟩, ?_, ?_, ?_, fun b hb => ?_, fun b j hb hj => ?_⟩
  · show (if 0 = sGv σ then true else sEx σ 0) = true
    split
    · rfl
    · exact w1
  · show 1 ≤ sGv σ + 1
    omega
  · show sGv σ + 1 ≤ 40
    omega
  · show b < sGv σ + 1
    have hb' : (if b = sGv σ then true else sEx σ b) = true := hb
    by_cases e : b = sGv σ
    · omega
    · rw [if_neg e] at hb'
      have := w4 b hb'
      omega
  · have hb' : (if b = sGv σ then true else sEx σ b) = true := hb
    show (if b = sGv σ then p else sPa σ b) < b ∧ (if (if b = sGv σ then p else sPa σ b) = sGv σ then true else sEx σ (if b = sGv σ then p else sPa σ b)) = true
    by_cases e : b = sGv σ
    · rw [if_pos e, if_neg (by omega), e]; exact ⟨hpl.1, hp⟩
    · rw [if_neg e] at hb' ⊢
      have q := w5 b hb' h0
      refine ⟨q.1, ?_⟩
      split
      · rfl
      · exact q.2
  · have hb' : (if b = sGv σ then true else sEx σ b) = true := hb
    show z_st 0 j ≤ (if b = sGv σ then z_st 2 j else sSt σ b j) ∧ (if b = sGv σ then z_st 2 j else sSt σ b j) ≤ z_st 1 j
    by_cases e : b = sGv σ
    · rw [if_pos e]; exact zst_fst j hj
    · rw [if_neg e] at hb' ⊢
      exact w6 b hb' j hj
  · rw [z_u_s]; exact nI_1 _
  · rw [row 1 (by omega), z_u_b _ _ (by omega), z_u_b _ _ (by omega)]; exact h3
  · rw [row 2 (by omega), z_u_b _ _ (by omega), z_u_b _ _ (by omega)]; exact h4
  · have hb' : b < sGv σ + 1 := hb
    show _ = if (if b = sGv σ then true else sEx σ b) = true then (if b = 0 then -1 else nI (if b = sGv σ then p else sPa σ b)) else -2
    rw [row _ (by omega), z_u_b _ _ (by omega)]
    by_cases e : b = sGv σ
    · rw [if_pos (by rw [if_pos e]), if_neg (show ¬ b = 0 by omega), if_pos e, e, z_u_s]
    · rw [z_u_b _ _ (by omega), h5 b (by omega), if_neg e]
      by_cases q : sEx σ b = true
      · rw [if_pos q, if_pos q, if_neg e]; rfl
      · rw [if_neg q, if_neg q]
  · have hb' : (if b = sGv σ then true else sEx σ b) = true := hb
    show _ = (if b = sGv σ then z_st 2 j else sSt σ b j)
    rw [z_u_b _ _ (by omega)]
    by_cases e : b = sGv σ
    · rw [if_pos e, e]
      show (if 96 = 96 ∧ 43 + 20 * sGv σ ≤ 43 + 20 * sGv σ + j ∧ 43 + 20 * sGv σ + j < 43 + 20 * sGv σ + 20 then z_st 2 (43 + 20 * sGv σ + j - (43 + 20 * sGv σ)) else _) = _
      rw [if_pos ⟨rfl, by omega, by omega⟩, Nat.add_sub_cancel_left]
    · rw [if_neg e] at hb' ⊢
      have := w4 b hb'
      rw [zmr_o _ _ (fun q => by omega), z_u_b _ _ (by omega)]; exact h6 b j hb' hj
theorem zMd_cpy {σ : zS} {I : Nat → Nat → Int32} (h : zMd σ I) {a b : Nat} (ha : sEx σ a = true) (hb : sEx σ b = true) : zMd (sCpy σ a b) (zmr (sSt σ a) I (43 + 20 * b) 17) := by
  have hbl := h.lt hb
  obtain ⟨h1, h2, h3, h4, h5, h6⟩ := h
  obtain ⟨w1, w2, w3, w4, w5, w6, w7, w8⟩ := h1
  refine ⟨⟨w1, w2, w3, w4, w5, fun c hc j hj => ?_, w7, w8⟩, ?_, ?_, ?_, fun c hc => ?_, fun c j hc hj => ?_⟩
  · show z_st 0 j ≤ (if c = b ∧ j < 17 then sSt σ a j else sSt σ c j) ∧ (if c = b ∧ j < 17 then sSt σ a j else sSt σ c j) ≤ z_st 1 j
    split
    · exact w6 a ha j hj
    · exact w6 c hc j hj
  · rw [zmr_o _ _ (by omega)]; exact h2
  · rw [zmr_o _ _ (by omega)]; exact h3
  · rw [zmr_o _ _ (by omega)]; exact h4
  · have hc' : c < sGv σ := hc
    rw [zmr_o _ _ (by omega)]; exact h5 c hc
  · show zmr (sSt σ a) I (43 + 20 * b) 17 96 (43 + 20 * c + j) = (if c = b ∧ j < 17 then sSt σ a j else sSt σ c j)
    by_cases e : c = b ∧ j < 17
    · rw [if_pos e, e.1]
      show (if 96 = 96 ∧ 43 + 20 * b ≤ 43 + 20 * b + j ∧ 43 + 20 * b + j < 43 + 20 * b + 17 then sSt σ a (43 + 20 * b + j - (43 + 20 * b)) else _) = _
      rw [if_pos ⟨rfl, by omega, by omega⟩, Nat.add_sub_cancel_left]
    · rw [if_neg e, zmr_o _ _ (fun q => e ⟨by omega, by omega⟩)]; exact h6 c j hc hj
/-- while a subtree is cut -/
def zmc (σ : zS) (t n : Nat) (I I' : Nat → Nat → Int32) : Prop := (∀ q j, ¬ (q = 96 ∧ 3 ≤ j ∧ j < 43) → I' q j = I q j) ∧ ∀ c, c < sGv σ → I' 96 (3 + c) = if sCut σ t n c = true then sPnu σ c else -2
theorem zmc_0 {σ : zS} {I : Nat → Nat → Int32} (h : zMd σ I) {t : Nat} (ht : t < 40) : zmc σ t (t + 1) I (z_u I 96 (3 + t) (-2)) := by
  refine ⟨fun q j hq => z_u_r2 _ (fun z => hq ⟨z.1, by omega, by omega⟩), fun c hc => ?_⟩
  rw [(sCut_low (σ := σ) (t := t) (Nat.le_refl (t + 1))).1]
  show _ = if (sEx σ c && decide (c ≠ t)) = true then sPnu σ c else -2
  by_cases e : c = t
  · rw [e, z_u_s, if_neg (by simp)]
  · rw [z_u_b _ _ (by omega), h.2.2.2.2.1 c hc, decide_eq_true e, Bool.and_true]
theorem zmc_n {σ : zS} {t n : Nat} {I I' : Nat → Nat → Int32} (htn : t < n) (h : zmc σ t n I I') (hs : sCut σ t n n = true → sCut σ t n (sPa σ n) = true) : zmc σ t (n + 1) I I' := by
  refine ⟨h.1, fun c hc => ?_⟩
  rw [h.2 c hc]
  have e : sCut σ t (n + 1) c = sCut σ t n c := by
    show (if c = n then sCut σ t n n && (decide (n ≤ t) || sCut σ t n (sPa σ n)) else sCut σ t n c) = _
    by_cases e : c = n
    · rw [if_pos e, e]
      by_cases q : sCut σ t n n = true
      · rw [q, hs q, Bool.or_true]; rfl
      · rw [show sCut σ t n n = false by simpa using q]; rfl
    · rw [if_neg e]
  rw [e]
theorem zmc_s {σ : zS} {t n : Nat} {I I' : Nat → Nat → Int32} (htn : t < n) (hn : n < 40) (h : zmc σ t n I I') (hp : sCut σ t n (sPa σ n) = false) : zmc σ t (n + 1) I (z_u I' 96 (3 + n) (-2)) := by
  refine ⟨fun q j hq => by rw [z_u_r2 _ (fun z => hq ⟨z.1, by omega, by omega⟩)]; exact h.1 q j hq, fun c hc => ?_⟩
  show _ = if (if c = n then sCut σ t n n && (decide (n ≤ t) || sCut σ t n (sPa σ n)) else sCut σ t n c) = true then sPnu σ c else -2
  by_cases e : c = n
  · rw [if_pos e, e, z_u_s, hp, decide_eq_false (show ¬ n ≤ t by omega), if_neg (by simp)]
  · rw [if_neg e, z_u_b _ _ (by omega)]; exact h.2 c hc
theorem zmc_end {σ : zS} {t : Nat} {I I' : Nat → Nat → Int32} (hm : zMd σ I) (ht0 : t ≠ 0) (hw : sWF (sRem σ t)) (h : zmc σ t (sGv σ) I I') : zMd (sRem σ t) I' := by
  have hg := hm.gv
  obtain ⟨h1, h2, h3, h4, h5, h6⟩ := hm
  refine ⟨hw, ?_, ?_, ?_, fun c hc => ?_, fun c j hc hj => ?_⟩
  · rw [h.1 96 0 (by omega)]; exact h2
  · rw [h.1 96 1 (by omega)]; exact h3
  · rw [h.1 96 2 (by omega)]; exact h4
  · have hc' : c < sGv σ := hc
    have e : sCut σ t 40 c = sCut σ t (sGv σ) c := by
      rw [show 40 = sGv σ + (40 - sGv σ) by omega]
      exact sCut_st hc'
    show _ = if sCut σ t 40 c = true then sPnu σ c else -2
    rw [e]
    exact h.2 c hc'
  · have hc' : sCut σ t 40 c = true := hc
    rw [h.1 96 _ (by omega)]
    exact h6 c j (sCut_ex hc').1 hj
theorem sRem_wf {σ : zS} (hw : sWF σ) {t : Nat} (ht0 : t ≠ 0) : sWF (sRem σ t) := by
  obtain ⟨w1, w2, w3, w4, w5, w6, w7, w8⟩ := hw
  have ex : ∀ b, sCut σ t 40 b = true → sEx σ b = true := fun b hb => (sCut_ex hb).1
  have z0 : sCut σ t 40 0 = true := by
    rw [show 40 = 1 + 39 from rfl, sCut_st (by decide)]
    show (if 0 = 0 then sCut σ t 0 0 && (decide (0 ≤ t) || sCut σ t 0 (sPa σ 0)) else _) = true
    rw [if_pos rfl, sCut_n (Nat.le_refl 0), w1, decide_eq_true (Ne.symm ht0), decide_eq_true (Nat.zero_le t)]
    rfl
  refine ⟨z0, w2, w3, fun b hb => w4 b (ex b hb), fun b hb h0 => ?_, fun b hb => w6 b (ex b hb), w7, w8⟩
  have hb' : sCut σ t 40 b = true := hb
  have q := w5 b (ex b hb') h0
  refine ⟨q.1, ?_⟩
  show sCut σ t 40 (sPa σ b) = true
  have hb40 : b < 40 := Nat.lt_of_lt_of_le (w4 b (ex b hb')) w3
  rw [sCut_rule hb40 q.1] at hb'
  simp only [Bool.and_eq_true, Bool.or_eq_true, decide_eq_true_eq] at hb'
  rcases hb'.2 with e | e
  · by_cases p0 : sPa σ b = 0
    · rw [p0]; exact z0
    · rw [sCut_rule (by omega) (w5 (sPa σ b) q.2 p0).1, q.2, decide_eq_true (show sPa σ b ≠ t by omega), decide_eq_true (show sPa σ b ≤ t by omega)]
      rfl
  · exact e
theorem sCutC_gv {σ : zS} (hw : sWF σ) {t : Nat} : sCutC σ t (sGv σ) = sCutC σ t 40 := by
  have key : ∀ d, sCutC σ t (sGv σ + d) = sCutC σ t (sGv σ) := by
    intro d
    induction d with
    | zero => rfl
    | succ d ih =>
      show (if t < sGv σ + d ∧ sCut σ t (sGv σ + d) (sGv σ + d) = true ∧ _ then _ else sCutC σ t (sGv σ + d)) = _
      rw [if_neg (fun q => by
        have := hw.2.2.2.1 _ (sCut_ex q.2.1).1
        omega)]
      exact ih
  have := key (40 - sGv σ)
  rw [show sGv σ + (40 - sGv σ) = 40 by have := hw.2.2.1; omega] at this
  exact this.symm
theorem sPnu_2 {σ : zS} (hw : sWF σ) {b : Nat} (he : sEx σ b = true) : sPnu σ b ≠ -2 := fun q => by
  have := sPnu_ge hw he
  rw [q] at this
  exact this (by decide)
/-- who is shown, as findShown has it ahead of n -/
def zmsh (σ : zS) (n : Nat) (I I' : Nat → Nat → Int32) : Prop := (∀ q j, q ≠ 100 → I' q j = I q j) ∧ ∀ c, c < n → I' 100 c = zB (sSh σ c)
theorem zmsh_s {σ : zS} {n : Nat} {I I' : Nat → Nat → Int32} (h : zmsh σ n I I') {v : Int32} (hv : v = zB (sSh σ n)) : zmsh σ (n + 1) I (z_u I' 100 n v) := by
  refine ⟨fun q j hq => by rw [z_u_a _ _ hq]; exact h.1 q j hq, fun c hc => ?_⟩
  by_cases e : c = n
  · rw [e, z_u_s, hv]
  · rw [z_u_b _ _ e]; exact h.2 c (by omega)
end ZMC
