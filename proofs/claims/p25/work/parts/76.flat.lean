section ZT1
/-! THE LAW'S TREE: the root and m boxes in it; h = 1 if the first is hidden -/
/-- parameters: width, GAP, PADDING, JUSTIFY, WRAP of the root; MIN_WIDTH, MAX_WIDTH, MARGIN, BASIS, GROW of the boxes -/
abbrev tP : Type := (Int32 × Int32 × Int32 × Int32 × Int32) × (Nat → Int32) × (Nat → Int32) × (Nat → Int32) × (Nat → Int32) × (Nat → Int32)
abbrev tW (q : tP) : Int32 := q.1.1
abbrev tG (q : tP) : Int32 := q.1.2.1
abbrev tA (q : tP) : Int32 := q.1.2.2.1
abbrev tJ (q : tP) : Int32 := q.1.2.2.2.1
abbrev tR (q : tP) : Int32 := q.1.2.2.2.2
abbrev tLo (q : tP) : Nat → Int32 := q.2.1
abbrev tHi (q : tP) : Nat → Int32 := q.2.2.1
abbrev tM (q : tP) : Nat → Int32 := q.2.2.2.1
abbrev tB (q : tP) : Nat → Int32 := q.2.2.2.2.1
abbrev tGw (q : tP) : Nat → Int32 := q.2.2.2.2.2
def tRt (q : tP) (k : Nat) : Int32 := if k = 1 then tR q else if k = 2 then tJ q else if k = 4 then tG q else if k = 5 then tA q else z_st 2 k
def tBx (q : tP) (h j k : Nat) : Int32 := if k = 6 then tM q j else if k = 7 then tB q j else if k = 8 then tGw q j else if k = 12 then tLo q j else if k = 14 then tHi q j else if k = 18 ∧ j = 0 then nI h else z_st 2 k
def tT (m h : Nat) (q : tP) (σ : zS) : Prop := sWF σ ∧ sGv σ = m + 1 ∧ (∀ b, sEx σ b = decide (b < m + 1)) ∧ (∀ b, b < m → sPa σ (b + 1) = 0) ∧ sVw σ = tW q ∧ sVh σ = 300 ∧ (∀ k, k < 20 → sSt σ 0 k = tRt q k) ∧ ∀ b k, b < m → k < 20 → sSt σ (b + 1) k = tBx q h b k
section
variable {m h : Nat} {q : tP} {σ : zS}
theorem tT_m (T : tT m h q σ) : m ≤ 39 := by
  have a := T.1.2.2.1
  have b := T.2.1
  omega
theorem tT_ex (T : tT m h q σ) {b : Nat} (hb : b ≤ m) : sEx σ b = true := by
  rw [T.2.2.1 b]
  exact decide_eq_true (by omega)
theorem tT_V (T : tT m h q σ) (hh : h ≤ 1) {n : Nat} : sV σ 0 n = decide (1 + h ≤ n ∧ n ≤ m) := by
  have e : sV σ 0 n = true ↔ (1 + h ≤ n ∧ n ≤ m) := by
    rw [sV_iff, T.2.2.1 n]
    cases n with
    | zero =>
      constructor
      · exact fun z => absurd rfl z.1
      · exact fun z => absurd z.1 (by omega)
    | succ n =>
      constructor
      · rintro ⟨_, h2, _, h4⟩
        have h2 := of_decide_eq_true h2
        rw [T.2.2.2.2.2.2.2 n 18 (by omega) (by decide)] at h4
        unfold tBx at h4
        rw [if_neg (by decide), if_neg (by decide), if_neg (by decide), if_neg (by decide), if_neg (by decide)] at h4
        refine ⟨?_, by omega⟩
        by_cases e0 : n = 0
        · rw [if_pos ⟨rfl, e0⟩] at h4
          rcases (show h = 0 ∨ h = 1 by omega) with e | e
          · omega
          · rw [e] at h4
            exact absurd h4 (by decide)
        · omega
      · rintro ⟨h1, h2⟩
        refine ⟨Nat.succ_ne_zero n, decide_eq_true (by omega), T.2.2.2.1 n (by omega), ?_⟩
        rw [T.2.2.2.2.2.2.2 n 18 (by omega) (by decide)]
        unfold tBx
        rw [if_neg (by decide), if_neg (by decide), if_neg (by decide), if_neg (by decide), if_neg (by decide)]
        by_cases e0 : n = 0
        · rw [if_pos ⟨rfl, e0⟩, show h = 0 by omega]
          rfl
        · rw [if_neg (fun z => e0 z.2)]
          rfl
  cases c : sV σ 0 n with
  | true => exact (decide_eq_true (e.mp c)).symm
  | false =>
    refine (decide_eq_false (fun z => ?_)).symm
    rw [e.mpr z] at c
    cases c
theorem tT_or (T : tT m h q σ) {b : Nat} (hb : b ≤ m) : sSt σ b 17 = 0 := by
  cases b with
  | zero => exact T.2.2.2.2.2.2.1 17 (by decide)
  | succ b =>
    rw [T.2.2.2.2.2.2.2 b 17 (by omega) (by decide)]
    unfold tBx
    rw [if_neg (by decide), if_neg (by decide), if_neg (by decide), if_neg (by decide), if_neg (by decide), if_neg (fun z => absurd z.1 (by decide))]
    rfl
theorem tT_kidsN (T : tT m h q σ) (hh : h ≤ 1) : ∀ n, sKidsN σ 0 n = List.range' (1 + h) (min n (m + 1) - (1 + h))
  | 0 => by
    show [] = _
    rw [show min 0 (m + 1) - (1 + h) = 0 by omega]
    rfl
  | n + 1 => by
    have ih := tT_kidsN T hh n
    show (if sV σ 0 n = true then zins (fun x => sSt σ x 17) n (sKidsN σ 0 n) else sKidsN σ 0 n) = _
    rw [ih, tT_V T hh]
    by_cases c : 1 + h ≤ n ∧ n ≤ m
    · rw [if_pos (decide_eq_true c)]
      have z := zins_app (ord := fun x => sSt σ x 17) (c := n) (l2 := []) (fun x hx => by cases hx) (l1 := List.range' (1 + h) (min n (m + 1) - (1 + h))) (fun x hx => by
        have hx := List.mem_range'_1.mp hx
        show sSt σ x 17 ≤ sSt σ n 17
        rw [tT_or T (show x ≤ m by omega), tT_or T c.2]
        exact Int32.le_refl _)
      rw [List.append_nil] at z
      rw [z, show min (n + 1) (m + 1) - (1 + h) = (min n (m + 1) - (1 + h)) + 1 by omega, List.range'_concat]
      congr 2
      omega
    · rw [if_neg (by rw [decide_eq_false c]; decide)]
      congr 1
      omega
theorem tT_kids (T : tT m h q σ) (hh : h ≤ 1) : sKids σ 0 = List.range' (1 + h) (m - h) := by
  have a := tT_m T
  unfold sKids
  rw [tT_kidsN T hh 40]
  congr 1
  omega
theorem tT_kn (T : tT m h q σ) (hh : h ≤ 1) : kn σ 0 = m - h := by
  show (sKids σ 0).length = _
  rw [tT_kids T hh, List.length_range']
theorem tT_kd (T : tT m h q σ) (hh : h ≤ 1) {i : Nat} (hi : i < m - h) : kd σ 0 i = i + h + 1 := by
  show (sKids σ 0).getD i 0 = _
  rw [tT_kids T hh, List.getD_eq_getElem?_getD, List.getElem?_range' (by omega)]
  show 1 + h + 1 * i = i + h + 1
  omega
theorem tT_sh (T : tT m h q σ) (hh : h ≤ 1) {i : Nat} (hi : i < m - h) : sSh σ (i + h + 1) = true := by
  have e := kd_mem (σ := σ) (p := 0) (i := i) (by rw [tT_kn T hh]; exact hi)
  rw [tT_kd T hh hi] at e
  exact sKids_sh T.1 sSh_0 e
theorem tT_con (T : tT m h q σ) (hm : 1 ≤ m) : sCon σ 0 = true := by
  have k : sK σ 0 1 = true := sK_iff.mpr ⟨by decide, tT_ex T hm, T.2.2.2.1 0 (by omega)⟩
  have key : ∀ n, 1 < n → sConN σ 0 n = true := by
    intro n
    induction n with
    | zero => exact fun z => absurd z (by omega)
    | succ n ih =>
      intro z
      show (sConN σ 0 n || sK σ 0 n) = true
      by_cases e : n = 1
      · rw [e, k, Bool.or_true]
      · rw [ih (by omega), Bool.true_or]
  exact key 40 (by decide)
/-- properties of the root and of the boxes -/
theorem tT_r (T : tT m h q σ) : sSt σ 0 0 = 0 ∧ sSt σ 0 1 = tR q ∧ sSt σ 0 2 = tJ q ∧ sSt σ 0 3 = 3 ∧ sSt σ 0 4 = tG q ∧ sSt σ 0 5 = tA q :=
  ⟨T.2.2.2.2.2.2.1 0 (by decide), T.2.2.2.2.2.2.1 1 (by decide), T.2.2.2.2.2.2.1 2 (by decide), T.2.2.2.2.2.2.1 3 (by decide), T.2.2.2.2.2.2.1 4 (by decide), T.2.2.2.2.2.2.1 5 (by decide)⟩
theorem tT_b (T : tT m h q σ) {j : Nat} (hj : j < m) : sSt σ (j + 1) 6 = tM q j ∧ sSt σ (j + 1) 7 = tB q j ∧ sSt σ (j + 1) 8 = tGw q j ∧ sSt σ (j + 1) 9 = 1 ∧ sSt σ (j + 1) 12 = tLo q j ∧ sSt σ (j + 1) 14 = tHi q j ∧ sSt σ (j + 1) 16 = -1 ∧ sPa σ (j + 1) = 0 :=
  ⟨T.2.2.2.2.2.2.2 j 6 hj (by decide), T.2.2.2.2.2.2.2 j 7 hj (by decide), T.2.2.2.2.2.2.2 j 8 hj (by decide), T.2.2.2.2.2.2.2 j 9 hj (by decide), T.2.2.2.2.2.2.2 j 12 hj (by decide), T.2.2.2.2.2.2.2 j 14 hj (by decide), T.2.2.2.2.2.2.2 j 16 hj (by decide), T.2.2.2.1 j hj⟩
theorem tT_al (T : tT m h q σ) {j : Nat} (hj : j < m) : sAl σ (j + 1) = 3 := by
  have b := tT_b T hj
  unfold sAl
  rw [b.2.2.2.2.2.2.1, if_pos rfl, b.2.2.2.2.2.2.2]
  exact (tT_r T).2.2.2.1
end
end ZT1
