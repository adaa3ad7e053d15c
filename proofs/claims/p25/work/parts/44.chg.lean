section ZCH
/-! THE CHANGES of the tree -/
def sSet (σ : zS) (b k : Nat) (v : Int32) : zS := (σ.1, σ.2.1, z_u σ.2.2.1 b k v, σ.2.2.2)
def sVp (σ : zS) (w h : Int32) : zS := (σ.1, σ.2.1, σ.2.2.1, w, h, σ.2.2.2.2.2)
def sCpy (σ : zS) (a b : Nat) : zS := (σ.1, σ.2.1, (fun c j => if c = b ∧ j < 17 then sSt σ a j else sSt σ c j), σ.2.2.2)
def sAdd (σ : zS) (p : Nat) : zS := ((fun b => if b = sGv σ then true else sEx σ b), (fun b => if b = sGv σ then p else sPa σ b), (fun b k => if b = sGv σ then z_st 2 k else sSt σ b k), sVw σ, sVh σ, sGv σ + 1)
def sRem (σ : zS) (t : Nat) : zS := (sCut σ t 40, σ.2.1, σ.2.2)
theorem zCl_st {σ : zS} {I : Nat → Nat → Int32} {P : Nat → Nat → Option Nat} (h : zTr σ I P) (hr : zRt I) (hs : I 82 2 = 1) : zCl σ I P := ⟨h, hr, fun q => by rw [hs] at q; exact absurd q (by decide)⟩
theorem zTr_set {σ : zS} {I : Nat → Nat → Int32} {P : Nat → Nat → Option Nat} (h : zTr σ I P) {b k : Nat} (he : sEx σ b = true) (hk : k < 20) {v : Int32} (hv : z_st 0 k ≤ v ∧ v ≤ z_st 1 k) : zTr (sSet σ b k v) (z_u I (40 + b) k v) P := by
  have hb := zTr_lt h he
  obtain ⟨h1, h2, h3, h4, h5, h6, h7, h8, h9, h10⟩ := h
  obtain ⟨w1, w2, w3, w4, w5, w6, w7, w8⟩ := h1
  refine ⟨⟨w1, w2, w3, w4, w5, fun c hc j hj => ?_, w7, w8⟩, fun c hc => ?_, fun c hc => ?_, h4, h5, h6, fun c j hc hj => ?_, ?_, ?_, ?_⟩
  · show z_st 0 j ≤ z_u σ.2.2.1 b k v c j ∧ z_u σ.2.2.1 b k v c j ≤ z_st 1 j
    by_cases e : c = b ∧ j = k
    · rw [e.1, e.2, z_u_s]; exact hv
    · rw [z_u_r2 _ e]; exact w6 c hc j hj
  · rw [z_u_a _ _ (by omega)]; exact h2 c hc
  · rw [z_u_a _ _ (by omega)]; exact h3 c hc
  · show z_u I (40 + b) k v (40 + c) j = z_u σ.2.2.1 b k v c j
    by_cases e : c = b ∧ j = k
    · rw [e.1, e.2, z_u_s, z_u_s]
    · rw [z_u_r2 _ e, z_u_r2 _ (fun z => e ⟨by omega, z.2⟩)]; exact h7 c j hc hj
  · rw [z_u_a _ _ (by omega)]; exact h8
  · rw [z_u_a _ _ (by omega)]; exact h9
  · rw [z_u_a _ _ (by omega)]; exact h10
theorem zTr_vp {σ : zS} {I : Nat → Nat → Int32} {P : Nat → Nat → Option Nat} (h : zTr σ I P) {w v : Int32} (hw : 0 ≤ w ∧ w ≤ 2000) (hv : 0 ≤ v ∧ v ≤ 2000) : zTr (sVp σ w v) (z_u (z_u I 81 3 w) 81 4 v) P := by
  obtain ⟨h1, h2, h3, h4, h5, h6, h7, h8, h9, h10⟩ := h
  obtain ⟨w1, w2, w3, w4, w5, w6, w7, w8⟩ := h1
  refine ⟨⟨w1, w2, w3, w4, w5, w6, hw, hv⟩, fun c hc => ?_, fun c hc => ?_, h4, h5, h6, fun c j hc hj => ?_, ?_, ?_, ?_⟩
  · rw [z_u_a _ _ (by omega), z_u_a _ _ (by omega)]; exact h2 c hc
  · rw [z_u_a _ _ (by omega), z_u_a _ _ (by omega)]; exact h3 c hc
  · have := w4 c hc
    rw [z_u_a _ _ (by omega), z_u_a _ _ (by omega)]; exact h7 c j hc hj
  · rw [z_u_b _ _ (by decide), z_u_b _ _ (by decide)]; exact h8
  · rw [z_u_b _ _ (by decide), z_u_s]; rfl
  · rw [z_u_s]; rfl
theorem zTr_cpy {σ : zS} {I : Nat → Nat → Int32} {P : Nat → Nat → Option Nat} (h : zTr σ I P) {a b : Nat} (ha : sEx σ a = true) (hb : sEx σ b = true) : zTr (sCpy σ a b) (zrow (sSt σ a) I (40 + b) 17) P := by
  have hb4 := zTr_lt h hb
  obtain ⟨h1, h2, h3, h4, h5, h6, h7, h8, h9, h10⟩ := h
  obtain ⟨w1, w2, w3, w4, w5, w6, w7, w8⟩ := h1
  have o : ∀ q j, q ≠ 40 + b → zrow (sSt σ a) I (40 + b) 17 q j = I q j := fun q j hq => if_neg (fun z => hq z.1)
  refine ⟨⟨w1, w2, w3, w4, w5, fun c hc j hj => ?_, w7, w8⟩, fun c hc => ?_, fun c hc => ?_, h4, h5, h6, fun c j hc hj => ?_, ?_, ?_, ?_⟩
  · show z_st 0 j ≤ (if c = b ∧ j < 17 then sSt σ a j else sSt σ c j) ∧ (if c = b ∧ j < 17 then sSt σ a j else sSt σ c j) ≤ z_st 1 j
    split
    · exact w6 a ha j hj
    · exact w6 c hc j hj
  · rw [o _ _ (by omega)]; exact h2 c hc
  · rw [o _ _ (by omega)]; exact h3 c hc
  · show zrow (sSt σ a) I (40 + b) 17 (40 + c) j = (if c = b ∧ j < 17 then sSt σ a j else sSt σ c j)
    unfold zrow
    by_cases e : c = b ∧ j < 17
    · rw [if_pos ⟨by omega, e.2⟩, if_pos e]
    · rw [if_neg (fun z => e ⟨by omega, z.2⟩), if_neg e]; exact h7 c j hc hj
  · rw [o _ _ (by omega)]; exact h8
  · rw [o _ _ (by omega)]; exact h9
  · rw [o _ _ (by omega)]; exact h10
theorem zst_fst : ∀ k, k < 20 → z_st 0 k ≤ z_st 2 k ∧ z_st 2 k ≤ z_st 1 k := by decide
theorem zTr_add {σ : zS} {I : Nat → Nat → Int32} {P : Nat → Nat → Option Nat} (h : zTr σ I P) {p : Nat} (hp : sEx σ p = true) (hg : sGv σ < 40) : zTr (sAdd σ p) (z_u (zrow (z_st 2) (z_u I (sGv σ) 2 1) (40 + sGv σ) 20) 81 2 (I 81 2 + 1)) (z_u P (sGv σ) 3 (some p)) := by
  obtain ⟨h1, h2, h3, h4, h5, h6, h7, h8, h9, h10⟩ := h
  obtain ⟨w1, w2, w3, w4, w5, w6, w7, w8⟩ := h1
  have hpg := w4 p hp
  have eI : ∀ q j, q ≠ 81 → zrow (z_st 2) (z_u I (sGv σ) 2 1) (40 + sGv σ) 20 q j = z_u (zrow (z_st 2) (z_u I (sGv σ) 2 1) (40 + sGv σ) 20) 81 2 (I 81 2 + 1) q j := fun q j hq => (z_u_a _ _ hq).symm
  have row : ∀ q j, q ≠ 40 + sGv σ → zrow (z_st 2) (z_u I (sGv σ) 2 1) (40 + sGv σ) 20 q j = z_u I (sGv σ) 2 1 q j := fun q j hq => if_neg (fun z => hq z.1)
  refine ⟨⟨?_, ?_, ?_, fun b hb => ?_, fun b hb h0 => ?_, fun b hb j hj => ?_, w7, w8⟩, fun b hb => ?_, fun b hb => ?_, fun b hb h0 => ?_, ?_, fun b a hb hq => ?_, fun b j hb hj => ?_, ?_, ?_, ?_⟩
  · show (if 0 = sGv σ then true else sEx σ 0) = true
    split
    · rfl
    · exact w1
  · show 1 ≤ sGv σ + 1
    omega
  · show sGv σ + 1 ≤ 40
    omega
  · show b < sGv σ + 1
    have hb' : (if b = sGv σ then true else sEx σ b) = true := hb
    by_cases e : b = sGv σ
    · omega
    · rw [if_neg e] at hb'
      have := w4 b hb'
      omega
  · have hb' : (if b = sGv σ then true else sEx σ b) = true := hb
    show (if b = sGv σ then p else sPa σ b) < b ∧ (if (if b = sGv σ then p else sPa σ b) = sGv σ then true else sEx σ (if b = sGv σ then p else sPa σ b)) = true
    by_cases e : b = sGv σ
    · rw [if_pos e, if_neg (by omega), e]; exact ⟨hpg, hp⟩
    · rw [if_neg e] at hb' ⊢
      have q := w5 b hb' h0
      refine ⟨q.1, ?_⟩
      split
      · rfl
      · exact q.2
  · have hb' : (if b = sGv σ then true else sEx σ b) = true := hb
    show z_st 0 j ≤ (if b = sGv σ then z_st 2 j else sSt σ b j) ∧ (if b = sGv σ then z_st 2 j else sSt σ b j) ≤ z_st 1 j
    by_cases e : b = sGv σ
    · rw [if_pos e]; exact zst_fst j hj
    · rw [if_neg e] at hb' ⊢
      exact w6 b hb' j hj
  · rw [← eI _ _ (by omega), row _ _ (by omega), z_u_b _ _ (by decide)]; exact h2 b hb
  · show _ = zB (if b = sGv σ then true else sEx σ b)
    rw [← eI _ _ (by omega), row _ _ (by omega)]
    by_cases e : b = sGv σ
    · rw [if_pos e, e, z_u_s]; rfl
    · rw [if_neg e, z_u_a _ _ e]; exact h3 b hb
  · have hb' : (if b = sGv σ then true else sEx σ b) = true := hb
    show _ = some (if b = sGv σ then p else sPa σ b)
    by_cases e : b = sGv σ
    · rw [if_pos e, e, z_u_s]
    · rw [if_neg e] at hb' ⊢
      rw [z_u_a _ _ e]; exact h4 b hb' h0
  · rw [z_u_a _ _ (by omega)]; exact h5
  · by_cases e : b = sGv σ
    · rw [e, z_u_s] at hq
      cases hq
      omega
    · rw [z_u_a _ _ e] at hq
      exact h6 b a hb hq
  · have hb' : (if b = sGv σ then true else sEx σ b) = true := hb
    show _ = (if b = sGv σ then z_st 2 j else sSt σ b j)
    by_cases e : b = sGv σ
    · rw [← eI _ _ (by omega), if_pos e, e]
      exact if_pos ⟨rfl, hj⟩
    · rw [if_neg e] at hb' ⊢
      have := w4 b hb'
      rw [← eI _ _ (by omega), row _ _ (by omega), z_u_a _ _ (by omega)]; exact h7 b j hb' hj
  · rw [z_u_s, h8]; exact nI_1 _
  · rw [z_u_b _ _ (by decide), row _ _ (by omega), z_u_a _ _ (by omega)]; exact h9
  · rw [z_u_b _ _ (by decide), row _ _ (by omega), z_u_a _ _ (by omega)]; exact h10
theorem sCut_st {σ : zS} {t b : Nat} : ∀ {n d : Nat}, b < n → sCut σ t (n + d) b = sCut σ t n b
  | _, 0, _ => rfl
  | n, d + 1, h => by
    show (if b = n + d then _ else sCut σ t (n + d) b) = _
    rw [if_neg (by omega), sCut_st h]
theorem sCut_n {σ : zS} {t b : Nat} : ∀ {n : Nat}, n ≤ b → sCut σ t n b = (sEx σ b && decide (b ≠ t))
  | 0, _ => rfl
  | n + 1, h => by
    show (if b = n then _ else sCut σ t n b) = _
    rw [if_neg (by omega), sCut_n (by omega)]
theorem sCut_rule {σ : zS} {t b : Nat} (hb : b < 40) (hp : sPa σ b < b) : sCut σ t 40 b = ((sEx σ b && decide (b ≠ t)) && (decide (b ≤ t) || sCut σ t 40 (sPa σ b))) := by
  have e1 : sCut σ t 40 b = sCut σ t (b + 1) b := by
    rw [show 40 = (b + 1) + (39 - b) by omega]
    exact sCut_st (by omega)
  have e2 : sCut σ t 40 (sPa σ b) = sCut σ t b (sPa σ b) := by
    rw [show 40 = b + (40 - b) by omega]
    exact sCut_st hp
  rw [e1, e2]
  show (if b = b then sCut σ t b b && (decide (b ≤ t) || sCut σ t b (sPa σ b)) else _) = _
  rw [if_pos rfl, sCut_n (Nat.le_refl b)]
theorem sCut_ex {σ : zS} {t b : Nat} : ∀ {n : Nat}, sCut σ t n b = true → sEx σ b = true ∧ b ≠ t
  | 0, h => by
    have h' : (sEx σ b && decide (b ≠ t)) = true := h
    rw [Bool.and_eq_true] at h'
    exact ⟨h'.1, of_decide_eq_true h'.2⟩
  | n + 1, h => by
    have h' : (if b = n then sCut σ t n n && (decide (n ≤ t) || sCut σ t n (sPa σ n)) else sCut σ t n b) = true := h
    by_cases e : b = n
    · rw [if_pos e, Bool.and_eq_true] at h'
      rw [e]
      exact sCut_ex h'.1
    · rw [if_neg e] at h'
      exact sCut_ex h'
theorem zTr_cut {σ : zS} {I : Nat → Nat → Int32} {P : Nat → Nat → Option Nat} (h : zTr σ I P) {t : Nat} (ht0 : t ≠ 0) : zTr (sRem σ t) (zex I (sCut σ t 40)) P := by
  obtain ⟨h1, h2, h3, h4, h5, h6, h7, h8, h9, h10⟩ := h
  obtain ⟨w1, w2, w3, w4, w5, w6, w7, w8⟩ := h1
  have ex : ∀ b, sCut σ t 40 b = true → sEx σ b = true := fun b hb => (sCut_ex hb).1
  refine ⟨⟨?_, w2, w3, fun b hb => w4 b (ex b hb), fun b hb h0 => ?_, fun b hb => w6 b (ex b hb), w7, w8⟩, fun b hb => ?_, fun b hb => zex_at I _ hb, fun b hb h0 => h4 b (ex b hb) h0, h5, h6, fun b k hb hk => ?_, ?_, ?_, ?_⟩
  · show sCut σ t 40 0 = true
    rw [show 40 = 1 + 39 from rfl, sCut_st (by decide)]
    show (if 0 = 0 then sCut σ t 0 0 && (decide (0 ≤ t) || sCut σ t 0 (sPa σ 0)) else _) = true
    rw [if_pos rfl, sCut_n (Nat.le_refl 0), w1, decide_eq_true (Ne.symm ht0), decide_eq_true (Nat.zero_le t)]
    rfl
  · have hb' : sCut σ t 40 b = true := hb
    have q := w5 b (ex b hb') h0
    refine ⟨q.1, ?_⟩
    show sCut σ t 40 (sPa σ b) = true
    have hb40 : b < 40 := Nat.lt_of_lt_of_le (w4 b (ex b hb')) w3
    rw [sCut_rule hb40 q.1] at hb'
    simp only [Bool.and_eq_true, Bool.or_eq_true, decide_eq_true_eq] at hb'
    rcases hb'.2 with e | e
    · by_cases p0 : sPa σ b = 0
      · rw [p0, show 40 = 1 + 39 from rfl, sCut_st (by decide)]
        show (if 0 = 0 then sCut σ t 0 0 && (decide (0 ≤ t) || sCut σ t 0 (sPa σ 0)) else _) = true
        rw [if_pos rfl, sCut_n (Nat.le_refl 0), w1, decide_eq_true (Ne.symm ht0), decide_eq_true (Nat.zero_le t)]
        rfl
      · rw [sCut_rule (by omega) (w5 (sPa σ b) q.2 p0).1, q.2, decide_eq_true (show sPa σ b ≠ t by omega), decide_eq_true (show sPa σ b ≤ t by omega)]
        rfl
    · exact e
  · rw [zex_k I _ (by decide)]; exact h2 b hb
  · have := w4 b (ex b hb)
    unfold zex
    rw [if_neg (by omega)]
    exact h7 b k (ex b hb) hk
  · unfold zex
    rw [if_neg (by omega)]
    exact h8
  · unfold zex
    rw [if_neg (by omega)]
    exact h9
  · unfold zex
    rw [if_neg (by omega)]
    exact h10
def sPnu (σ : zS) (b : Nat) : Int32 := if b = 0 then -1 else nI (sPa σ b)
theorem zpn_S {σ : zS} {I : Nat → Nat → Int32} {P : Nat → Nat → Option Nat} (h : zTr σ I P) {b : Nat} (he : sEx σ b = true) : (match P b 3 with | none => -1 | some a => nI a) = sPnu σ b := by
  unfold sPnu
  by_cases h0 : b = 0
  · rw [if_pos h0, h0, h.2.2.2.2.1]
  · rw [if_neg h0, h.2.2.2.1 b he h0]
def sChl (σ : zS) (b : Nat) (i : Int32) : Int32 := if i = -1 then nI (kn σ b) else if 0 ≤ i ∧ i < nI (kn σ b) then nI (kd σ b i.toInt.toNat) else -1
theorem sChl_k {σ : zS} (hw : sWF σ) {b k : Nat} (hk : k < kn σ b) {i : Int32} (hi : i = nI k) : sChl σ b i = nI (kd σ b k) := by
  have hn := kn_le hw b
  have e : (nI k).toInt = (k : Int) := nI_toInt (by omega)
  have e2 : (nI (kn σ b)).toInt = (kn σ b : Int) := nI_toInt (by omega)
  have e0 : (0 : Int32).toInt = 0 := rfl
  unfold sChl
  rw [if_neg (fun q => by
    rw [hi, zi_eq, e] at q
    have e1 : (-1 : Int32).toInt = -1 := rfl
    omega), if_pos ⟨by rw [hi, zi_le, e, e0]; omega, by rw [hi, zi_lt, e, e2]; omega⟩, hi, e]
  rfl
theorem sChl_n {σ : zS} (hw : sWF σ) {b : Nat} {i : Int32} (h1 : ¬ i = -1) (h : ∀ k, k < kn σ b → i ≠ nI k) : sChl σ b i = -1 := by
  have hn := kn_le hw b
  unfold sChl
  rw [if_neg h1, if_neg]
  intro q
  obtain ⟨k, hk, e⟩ := zi_nI (by omega) q.1 q.2
  exact h k hk e
def sCpC (σ : zS) (a b : Nat) : Nat → Nat
  | 0 => 0
  | n + 1 => if sSt σ a n = sSt σ b n then sCpC σ a b n else sCpC σ a b n + 1
def sOvf (σ : zS) (b : Nat) : Int32 := if sCon σ b = true then sOv σ b else sOvT σ b
end ZCH
