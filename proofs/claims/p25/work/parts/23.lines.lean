section ZLN
theorem zendF_spec {ln : Nat → Nat} {n l : Nat} : ∀ {f i : Nat}, i + f = n → i ≤ zendF ln n l f i ∧ zendF ln n l f i ≤ n ∧ (∀ k, i ≤ k → k < zendF ln n l f i → ln k = l) ∧ (zendF ln n l f i < n → ln (zendF ln n l f i) ≠ l)
  | 0, i, h => ⟨Nat.le_refl _, by show i ≤ n; omega, fun k h1 h2 => absurd h2 (Nat.not_lt.mpr h1), fun h2 => by
    have : i < n := h2
    omega⟩
  | f + 1, i, h => by
    unfold zendF
    split
    · rename_i q
      obtain ⟨h1, h2, h3, h4⟩ := zendF_spec (ln := ln) (n := n) (l := l) (f := f) (i := i + 1) (by omega)
      refine ⟨by omega, h2, fun k k1 k2 => ?_, h4⟩
      by_cases e : k = i
      · rw [e]; exact q.2
      · exact h3 k (by omega) k2
    · rename_i q
      exact ⟨Nat.le_refl _, by omega, fun k h1 h2 => absurd h2 (Nat.not_lt.mpr h1), fun h2 h3 => q ⟨h2, h3⟩⟩
/-- the line that begins at a: its end, and what it holds -/
theorem zend_spec {ln : Nat → Nat} {n a : Nat} (h : a < n) : a < zend ln n a ∧ zend ln n a ≤ n ∧ (∀ k, a ≤ k → k < zend ln n a → ln k = ln a) ∧ (zend ln n a < n → ln (zend ln n a) ≠ ln a) := by
  obtain ⟨h1, h2, h3, h4⟩ := zendF_spec (ln := ln) (n := n) (l := ln a) (f := n - a) (i := a) (by omega)
  refine ⟨?_, h2, h3, h4⟩
  rcases Nat.lt_or_ge a (zend ln n a) with q | q
  · exact q
  · have e : zendF ln n (ln a) (n - a) a = a := by
      have : zend ln n a = zendF ln n (ln a) (n - a) a := rfl
      omega
    exact absurd (by rw [e]) (h4 (by omega))
theorem zbeg_le {ln : Nat → Nat} : ∀ i, zbeg ln i ≤ i
  | 0 => Nat.le_refl _
  | i + 1 => by
    unfold zbeg
    split
    · have := zbeg_le (ln := ln) i
      omega
    · exact Nat.le_refl _
theorem zbeg_beg {ln : Nat → Nat} : ∀ i, zbeg ln (zbeg ln i) = zbeg ln i
  | 0 => rfl
  | i + 1 => by
    by_cases e : ln (i + 1) = ln i
    · have q : zbeg ln (i + 1) = zbeg ln i := if_pos e
      rw [q]
      exact zbeg_beg i
    · have q : zbeg ln (i + 1) = i + 1 := if_neg e
      rw [q, q]
theorem zbeg_ln {ln : Nat → Nat} : ∀ i, ln (zbeg ln i) = ln i
  | 0 => rfl
  | i + 1 => by
    by_cases e : ln (i + 1) = ln i
    · have q : zbeg ln (i + 1) = zbeg ln i := if_pos e
      rw [q, zbeg_ln (ln := ln) i, e]
    · have q : zbeg ln (i + 1) = i + 1 := if_neg e
      rw [q]
theorem zbeg_in {ln : Nat → Nat} {a : Nat} (ha : zbeg ln a = a) : ∀ {d : Nat}, (∀ k, a ≤ k → k ≤ a + d → ln k = ln a) → zbeg ln (a + d) = a
  | 0, _ => ha
  | d + 1, h => by
    have q : zbeg ln (a + d + 1) = zbeg ln (a + d) := if_pos (by rw [h (a + d + 1) (by omega) (by omega), h (a + d) (by omega) (by omega)])
    rw [show a + (d + 1) = a + d + 1 from rfl, q]
    exact zbeg_in ha (fun k k1 k2 => h k k1 (by omega))
theorem zend_beg {ln : Nat → Nat} {n a : Nat} (h : a < n) (ha : zbeg ln a = a) : (∀ k, a ≤ k → k < zend ln n a → zbeg ln k = a) ∧ (zend ln n a < n → zbeg ln (zend ln n a) = zend ln n a) := by
  obtain ⟨h1, h2, h3, h4⟩ := zend_spec (ln := ln) h
  refine ⟨fun k k1 k2 => ?_, fun q => ?_⟩
  · have := zbeg_in ha (d := k - a) (fun i i1 i2 => h3 i i1 (by omega))
    rw [show a + (k - a) = k by omega] at this
    exact this
  · generalize hz : zend ln n a = z at h1 h3 h4 q
    obtain ⟨y, rfl⟩ : ∃ y, z = y + 1 := ⟨z - 1, by omega⟩
    exact if_neg (fun e => h4 q (e.trans (h3 y (by omega) (by omega))))
def zstep (ln : Nat → Nat) : Prop := ln 0 = 0 ∧ ∀ i, ln (i + 1) = ln i ∨ ln (i + 1) = ln i + 1
theorem zstep_le {ln : Nat → Nat} (h : zstep ln) : ∀ i, ln i ≤ i
  | 0 => by rw [h.1]; exact Nat.le_refl _
  | i + 1 => by
    have := zstep_le h i
    have := h.2 i
    omega
theorem zstep_mono {ln : Nat → Nat} (h : zstep ln) : ∀ {i d : Nat}, ln i ≤ ln (i + d)
  | _, 0 => Nat.le_refl _
  | i, d + 1 => by
    have h1 := zstep_mono h (i := i) (d := d)
    have h2 := h.2 (i + d)
    show ln i ≤ ln (i + d + 1)
    omega
/-- the next line's number -/
theorem zend_ln {ln : Nat → Nat} (hs : zstep ln) {n a : Nat} (h : a < n) : (zend ln n a < n → ln (zend ln n a) = ln a + 1) ∧ (zend ln n a = n → ln (n - 1) = ln a) := by
  obtain ⟨h1, h2, h3, h4⟩ := zend_spec (ln := ln) h
  refine ⟨fun q => ?_, fun q => ?_⟩
  · have e := h4 q
    generalize hz : zend ln n a = z at h1 h3 q e
    obtain ⟨y, rfl⟩ : ∃ y, z = y + 1 := ⟨z - 1, by omega⟩
    have := h3 y (by omega) (by omega)
    have := hs.2 y
    omega
  · exact h3 (n - 1) (by omega) (by omega)
theorem sLn_step (σ : zS) (nw : Nat → Int32) (p : Nat) (W : Int32) : zstep (sLn σ nw p W) := by
  refine ⟨?_, fun i => ?_⟩
  · unfold sLn
    split <;> rfl
  · unfold sLn
    split
    · exact Or.inr rfl
    · have e : sLU σ nw p W (i + 1) = if sSt σ p 1 = 1 ∧ sIn W (sSt σ p 5) < (sLU σ nw p W i).2 + sSt σ p 4 + sSO σ nw p (i + 1) then ((sLU σ nw p W i).1 + 1, sSO σ nw p (i + 1)) else ((sLU σ nw p W i).1, (sLU σ nw p W i).2 + sSt σ p 4 + sSO σ nw p (i + 1)) := rfl
      rw [e]
      split
      · exact Or.inr rfl
      · exact Or.inl rfl
/-- fields of the boxes a, a + 1 .. below i of L; nothing else of I changed -/
def zsetv (fl : List Nat) (L : List Nat) (a i : Nat) (v : Nat → Nat → Int32) (I I' : Nat → Nat → Int32) : Prop := (∀ q j, ¬ (j ∈ fl ∧ ∃ k, a ≤ k ∧ k < i ∧ L[k]? = some q) → I' q j = I q j) ∧ ∀ k q, a ≤ k → k < i → L[k]? = some q → ∀ j ∈ fl, I' q j = v k j
theorem zsetv_0 (fl : List Nat) (L : List Nat) (a : Nat) (v : Nat → Nat → Int32) (I : Nat → Nat → Int32) : zsetv fl L a a v I I := ⟨fun _ _ _ => rfl, fun k q h1 h2 _ => absurd h2 (Nat.not_lt.mpr h1)⟩
theorem zsetv_s {fl : List Nat} {L : List Nat} {a i x : Nat} {v : Nat → Nat → Int32} {I I' I2 : Nat → Nat → Int32} (hn : L.Nodup) (hx : L[i]? = some x) (hai : a ≤ i) (h : zsetv fl L a i v I I') (ho : ∀ q j, ¬ (q = x ∧ j ∈ fl) → I2 q j = I' q j) (hv : ∀ j ∈ fl, I2 x j = v i j) : zsetv fl L a (i + 1) v I I2 := by
  refine ⟨fun q j hq => ?_, fun k q h1 h2 h3 j hj => ?_⟩
  · rw [ho q j (fun z => hq ⟨z.2, i, hai, Nat.lt_succ_self _, by rw [z.1]; exact hx⟩)]
    exact h.1 q j (fun z => hq ⟨z.1, by obtain ⟨k, z1, z2, z3⟩ := z.2; exact ⟨k, z1, by omega, z3⟩⟩)
  · by_cases e : k = i
    · subst e
      rw [hx] at h3
      cases h3
      exact hv j hj
    · rw [ho q j (fun z => e (zlist_inj hn (by rw [← z.1]; exact h3) hx))]
      exact h.2 k q h1 (by omega) h3 j hj
theorem zsetv_1 {f1 : Nat} {L : List Nat} {a i x : Nat} {v : Nat → Nat → Int32} {I I' : Nat → Nat → Int32} (hn : L.Nodup) (hx : L[i]? = some x) (hai : a ≤ i) (h : zsetv [f1] L a i v I I') {v1 : Int32} (e1 : v1 = v i f1) : zsetv [f1] L a (i + 1) v I (z_u I' x f1 v1) := by
  refine zsetv_s hn hx hai h (fun q j hq => ?_) (fun j hj => ?_)
  · rw [z_u_r2 _ (fun z => hq ⟨z.1, by rw [z.2]; exact List.mem_singleton.mpr rfl⟩)]
  · rw [List.mem_singleton.mp hj, z_u_s, e1]
theorem zsetv_2 {f1 f2 : Nat} {L : List Nat} {a i x : Nat} {v : Nat → Nat → Int32} {I I' : Nat → Nat → Int32} (hn : L.Nodup) (hx : L[i]? = some x) (hai : a ≤ i) (h : zsetv [f1, f2] L a i v I I') (h12 : f1 ≠ f2) {v1 v2 : Int32} (e1 : v1 = v i f1) (e2 : v2 = v i f2) : zsetv [f1, f2] L a (i + 1) v I (z_u (z_u I' x f1 v1) x f2 v2) := by
  refine zsetv_s hn hx hai h (fun q j hq => ?_) (fun j hj => ?_)
  · rw [z_u_r2 _ (fun z => hq ⟨z.1, by rw [z.2]; simp⟩), z_u_r2 _ (fun z => hq ⟨z.1, by rw [z.2]; simp⟩)]
  · simp at hj
    rcases hj with rfl | rfl
    · rw [z_u_b _ _ h12, z_u_s, e1]
    · rw [z_u_s, e2]
theorem zsetv_3 {f1 f2 f3 : Nat} {L : List Nat} {a i x : Nat} {v : Nat → Nat → Int32} {I I' : Nat → Nat → Int32} (hn : L.Nodup) (hx : L[i]? = some x) (hai : a ≤ i) (h : zsetv [f1, f2, f3] L a i v I I') (h12 : f1 ≠ f2) (h13 : f1 ≠ f3) (h23 : f2 ≠ f3) {v1 v2 v3 : Int32} (e1 : v1 = v i f1) (e2 : v2 = v i f2) (e3 : v3 = v i f3) : zsetv [f1, f2, f3] L a (i + 1) v I (z_u (z_u (z_u I' x f1 v1) x f2 v2) x f3 v3) := by
  refine zsetv_s hn hx hai h (fun q j hq => ?_) (fun j hj => ?_)
  · rw [z_u_r2 _ (fun z => hq ⟨z.1, by rw [z.2]; simp⟩), z_u_r2 _ (fun z => hq ⟨z.1, by rw [z.2]; simp⟩), z_u_r2 _ (fun z => hq ⟨z.1, by rw [z.2]; simp⟩)]
  · simp at hj
    rcases hj with rfl | rfl | rfl
    · rw [z_u_b _ _ h13, z_u_b _ _ h12, z_u_s, e1]
    · rw [z_u_b _ _ h23, z_u_s, e2]
    · rw [z_u_s, e3]
theorem zsetv.lay {fl : List Nat} {σ : zS} (hw : sWF σ) {p a i : Nat} {v : Nat → Nat → Int32} {I I' : Nat → Nat → Int32} (h : zsetv fl (sKids σ p) a i v I I') (hf : ∀ j ∈ fl, 9 ≤ j) : zLay I I' := fun q j hk => h.1 q j (fun z => by
  obtain ⟨z1, k, _, _, z2⟩ := z
  have h1 := hf j z1
  have h2 := (sKids_lt hw (List.mem_of_getElem? z2)).2.1
  unfold zKeep at hk
  omega)
/-- what spreadWidths leaves of p, whose width is W -/
def zsprQ (σ : zS) (nw : Nat → Int32) (p : Nat) (W : Int32) (I : Nat → Nat → Int32) (P : Nat → Nat → Option Nat) (J : Nat → Nat → Int64) : Option Value → (Nat → Nat → Int32) → (Nat → Nat → Option Nat) → (Nat → Nat → Int64) → Prop := fun v I' P' J' => v = none ∧ P' = P ∧ J' = J ∧
  (∀ q j, ¬ ((j = 14 ∨ j = 17) ∧ q ∈ sKids σ p) → ¬ (q = p ∧ j = 16) → ¬ (q = 83 ∧ (j = 9 ∨ j = 10)) → ¬ (86 ≤ q ∧ q ≤ 94) → I' q j = I q j) ∧
  (∀ i q, (sKids σ p)[i]? = some q → I' q 14 = sKW σ nw p W i ∧ I' q 17 = nI (sLn σ nw p W i)) ∧ I' p 16 = nI (sLCn σ nw p W)
/-- .. and breakLines -/
def zbrkQ (σ : zS) (nw : Nat → Int32) (p : Nat) (W : Int32) (I : Nat → Nat → Int32) (P : Nat → Nat → Option Nat) (J : Nat → Nat → Int64) : Option Value → (Nat → Nat → Int32) → (Nat → Nat → Option Nat) → (Nat → Nat → Int64) → Prop := fun v I' P' J' => v = none ∧ P' = P ∧ J' = J ∧
  (∀ q j, ¬ (j = 17 ∧ q ∈ sKids σ p) → ¬ (q = p ∧ j = 16) → I' q j = I q j) ∧
  (∀ i q, (sKids σ p)[i]? = some q → I' q 17 = nI (sLn σ nw p W i)) ∧ I' p 16 = nI (sLCn σ nw p W)
/-- the line and what is used of it ahead of the i-th child -/
def zlu (σ : zS) (nw : Nat → Int32) (p : Nat) (W : Int32) : Nat → Nat × Int32
  | 0 => (0, 0)
  | i + 1 => sLU σ nw p W i
end ZLN
