section ZFK
/-- Flex' rows with n boxes put in -/
def zputF (I : Nat → Nat → Int32) (wd : Bool) (ks : Nat → Nat) (n : Nat) : Nat → Nat → Int32 := fun a j =>
  if a = 83 ∧ j = 9 then nI n else if a = 83 ∧ j = 10 then zsum (fun q => 2 * I (40 + ks q) 6) n else
  if j < n ∧ 86 ≤ a ∧ a ≤ 90 then (if a = 86 then zbase I (ks j) wd else if a = 87 then I (40 + ks j) (if wd = true then 12 else 13) else if a = 88 then I (40 + ks j) (if wd = true then 14 else 15) else if a = 89 then I (40 + ks j) 8 else I (40 + ks j) 9) else I a j
theorem zputF_lo (I : Nat → Nat → Int32) (wd : Bool) (ks : Nat → Nat) {n a j : Nat} (h : a < 83) : zputF I wd ks n a j = I a j := by
  unfold zputF
  rw [if_neg (fun q => by omega), if_neg (fun q => by omega), if_neg (fun q => by omega)]
theorem zputF_hi (I : Nat → Nat → Int32) (wd : Bool) (ks : Nat → Nat) {n a j : Nat} (h : 90 < a) : zputF I wd ks n a j = I a j := by
  unfold zputF
  rw [if_neg (fun q => by omega), if_neg (fun q => by omega), if_neg (fun q => by omega)]
theorem zputF_o (I : Nat → Nat → Int32) (wd : Bool) (ks : Nat → Nat) {n a j : Nat} (h1 : ¬ (a = 83 ∧ (j = 9 ∨ j = 10))) (h2 : ¬ (86 ≤ a ∧ a ≤ 90)) : zputF I wd ks n a j = I a j := by
  unfold zputF
  rw [if_neg (fun q => h1 ⟨q.1, Or.inl q.2⟩), if_neg (fun q => h1 ⟨q.1, Or.inr q.2⟩), if_neg (fun q => h2 q.2)]
theorem zputF_9 (I : Nat → Nat → Int32) (wd : Bool) (ks : Nat → Nat) (n : Nat) : zputF I wd ks n 83 9 = nI n := if_pos ⟨rfl, rfl⟩
theorem zputF_10 (I : Nat → Nat → Int32) (wd : Bool) (ks : Nat → Nat) (n : Nat) : zputF I wd ks n 83 10 = zsum (fun q => 2 * I (40 + ks q) 6) n := by
  unfold zputF
  rw [if_neg (fun q => absurd q.2 (by decide)), if_pos ⟨rfl, rfl⟩]
theorem zputF_0 (I : Nat → Nat → Int32) (wd : Bool) (ks : Nat → Nat) : zputF I wd ks 0 = z_u (z_u I 83 9 0) 83 10 0 := by
  funext a j
  unfold zputF z_u
  by_cases h1 : a = 83
  · subst h1
    by_cases h2 : j = 9
    · subst h2
      rfl
    · by_cases h3 : j = 10
      · subst h3
        rfl
      · simp [h2, h3]
  · simp [h1]
theorem zbase_put (I : Nat → Nat → Int32) (wd : Bool) (ks : Nat → Nat) (n : Nat) {b : Nat} (h : b < 40) (w : Bool) : zbase (zputF I wd ks n) b w = zbase I b w := by
  unfold zbase
  rw [zputF_lo _ _ _ (by omega), zputF_lo _ _ _ (by omega), zputF_lo _ _ _ (by omega)]
theorem zput_s (I : Nat → Nat → Int32) (wd : Bool) (ks : Nat → Nat) (n : Nat) {v6 v7 v8 v9 v0 m c : Int32} (h6 : v6 = zbase I (ks n) wd) (h7 : v7 = I (40 + ks n) (if wd = true then 12 else 13)) (h8 : v8 = I (40 + ks n) (if wd = true then 14 else 15)) (h9 : v9 = I (40 + ks n) 8) (h0 : v0 = I (40 + ks n) 9) (hm : m = zsum (fun q => 2 * I (40 + ks q) 6) n + 2 * I (40 + ks n) 6) (hc : c = nI (n + 1)) :
    z_u (z_u (z_u (z_u (z_u (z_u (z_u (zputF I wd ks n) 86 n v6) 87 n v7) 88 n v8) 89 n v9) 90 n v0) 83 10 m) 83 9 c = zputF I wd ks (n + 1) := by
  subst h6; subst h7; subst h8; subst h9; subst h0; subst hm; subst hc
  funext a j
  by_cases e83 : a = 83
  · subst e83
    by_cases e9 : j = 9
    · subst e9
      rw [z_u_s, zputF_9]
    · by_cases e10 : j = 10
      · subst e10
        rw [z_u_b _ _ (by decide), z_u_s, zputF_10]
        rfl
      · rw [z_u_b _ _ e9, z_u_b _ _ e10, z_u_a _ _ (by decide), z_u_a _ _ (by decide), z_u_a _ _ (by decide), z_u_a _ _ (by decide), z_u_a _ _ (by decide)]
        unfold zputF
        simp [e9, e10]
  · rw [z_u_a _ _ e83, z_u_a _ _ e83]
    by_cases ej : j = n
    · subst ej
      by_cases e90 : a = 90
      · subst e90; rw [z_u_s]; unfold zputF; simp
      · rw [z_u_a _ _ e90]
        by_cases e89 : a = 89
        · subst e89; rw [z_u_s]; unfold zputF; simp
        · rw [z_u_a _ _ e89]
          by_cases e88 : a = 88
          · subst e88; rw [z_u_s]; unfold zputF; simp
          · rw [z_u_a _ _ e88]
            by_cases e87 : a = 87
            · subst e87; rw [z_u_s]; unfold zputF; simp
            · rw [z_u_a _ _ e87]
              by_cases e86 : a = 86
              · subst e86; rw [z_u_s]; unfold zputF; simp
              · rw [z_u_a _ _ e86]
                have e : ¬ (86 ≤ a ∧ a ≤ 90) := by omega
                unfold zputF
                rw [if_neg (fun q => e83 q.1), if_neg (fun q => e83 q.1), if_neg (fun q => e q.2), if_neg (fun q => e83 q.1), if_neg (fun q => e83 q.1), if_neg (fun q => e q.2)]
    · rw [z_u_b _ _ ej, z_u_b _ _ ej, z_u_b _ _ ej, z_u_b _ _ ej, z_u_b _ _ ej]
      unfold zputF
      have e2 : (j < n + 1) = (j < n) := by apply propext; omega
      simp [e83, e2]
/-! the rounds look at the first n places alone -/
section
variable {n : Nat} {gr : Bool} {room : Int32} {b1 b2 l1 l2 h1 h2 f1 f2 : Nat → Int32} {s1 s2 : (Nat → Int32) × (Nat → Bool)}
theorem fxRound_congr (hb : ∀ j, j < n → b1 j = b2 j) (hl : ∀ j, j < n → l1 j = l2 j) (hh : ∀ j, j < n → h1 j = h2 j) (hf : ∀ j, j < n → f1 j = f2 j) (hs : ∀ j, j < n → s1.1 j = s2.1 j ∧ s1.2 j = s2.2 j) : ∀ j, j < n → (fxRound n gr room b1 l1 h1 f1 s1).1 j = (fxRound n gr room b2 l2 h2 f2 s2).1 j ∧ (fxRound n gr room b1 l1 h1 f1 s1).2 j = (fxRound n gr room b2 l2 h2 f2 s2).2 j := by
  have eo : ∀ k, k ≤ n → fxOpen f1 s1.2 k = fxOpen f2 s2.2 k := fun k hk => fxOpen_congr (fun j hj => ⟨hf j (by omega), (hs j (by omega)).2⟩)
  have er : fxRest room b1 s1.1 s1.2 n = fxRest room b2 s2.1 s2.2 n := zfsub_congr (fun j hj => by rw [(hs j hj).1, (hs j hj).2, hb j hj])
  have ep : ∀ j, j < n → fxP gr (fxAmt gr (fxRest room b1 s1.1 s1.2 n)).toInt64 (fxOpen f1 s1.2 n) b1 f1 s1.2 j = fxP gr (fxAmt gr (fxRest room b2 s2.1 s2.2 n)).toInt64 (fxOpen f2 s2.2 n) b2 f2 s2.2 j := fun j hj => by
    unfold fxP fxPart
    rw [er, eo n (Nat.le_refl n), eo j (by omega), eo (j + 1) (by omega), hb j hj]
  generalize hp1 : fxP gr (fxAmt gr (fxRest room b1 s1.1 s1.2 n)).toInt64 (fxOpen f1 s1.2 n) b1 f1 s1.2 = p1 at ep
  generalize hp2 : fxP gr (fxAmt gr (fxRest room b2 s2.1 s2.2 n)).toInt64 (fxOpen f2 s2.2 n) b2 f2 s2.2 = p2 at ep
  have ed : ∀ j, j < n → fxDev l1 h1 p1 j = fxDev l2 h2 p2 j := fun j hj => by
    unfold fxDev
    rw [ep j hj, hl j hj, hh j hj]
  have es : fxSum (fxDev l1 h1 p1) s1.2 n = fxSum (fxDev l2 h2 p2) s2.2 n := zsumL_congr (fun j hj => by rw [ed j hj, (hs j hj).2])
  intro j hj
  have e1 : (fxRound n gr room b1 l1 h1 f1 s1) = (fun j => if s1.2 j = false ∧ fxFix (fxSum (fxDev l1 h1 p1) s1.2 n) (fxDev l1 h1 p1 j) = true then p1 j + fxDev l1 h1 p1 j else s1.1 j, fun j => s1.2 j || fxFix (fxSum (fxDev l1 h1 p1) s1.2 n) (fxDev l1 h1 p1 j)) := by rw [← hp1]; rfl
  have e2 : (fxRound n gr room b2 l2 h2 f2 s2) = (fun j => if s2.2 j = false ∧ fxFix (fxSum (fxDev l2 h2 p2) s2.2 n) (fxDev l2 h2 p2 j) = true then p2 j + fxDev l2 h2 p2 j else s2.1 j, fun j => s2.2 j || fxFix (fxSum (fxDev l2 h2 p2) s2.2 n) (fxDev l2 h2 p2 j)) := by rw [← hp2]; rfl
  rw [e1, e2]
  dsimp only
  rw [es, ed j hj, ep j hj, (hs j hj).1, (hs j hj).2]
  exact ⟨rfl, rfl⟩
theorem fxIt_congr (hb : ∀ j, j < n → b1 j = b2 j) (hl : ∀ j, j < n → l1 j = l2 j) (hh : ∀ j, j < n → h1 j = h2 j) (hf : ∀ j, j < n → f1 j = f2 j) (hs : ∀ j, j < n → s1.1 j = s2.1 j ∧ s1.2 j = s2.2 j) : ∀ k j : Nat, j < n → (fxIt n gr room b1 l1 h1 f1 s1 k).1 j = (fxIt n gr room b2 l2 h2 f2 s2 k).1 j ∧ (fxIt n gr room b1 l1 h1 f1 s1 k).2 j = (fxIt n gr room b2 l2 h2 f2 s2 k).2 j
  | 0, j, hj => hs j hj
  | k + 1, j, hj => fxRound_congr hb hl hh hf (fxIt_congr hb hl hh hf hs k) j hj
theorem fxSz_congr {g1 g2 k1 k2 : Nat → Int32} (hb : ∀ j, j < n → b1 j = b2 j) (hl : ∀ j, j < n → l1 j = l2 j) (hh : ∀ j, j < n → h1 j = h2 j) (hg : ∀ j, j < n → g1 j = g2 j) (hk : ∀ j, j < n → k1 j = k2 j) : ∀ j, j < n → fxSz n room b1 l1 h1 g1 k1 j = fxSz n room b2 l2 h2 g2 k2 j := by
  intro j hj
  have est : ∀ j, j < n → fxStart b1 l1 h1 j = fxStart b2 l2 h2 j := fun j hj => by
    unfold fxStart
    rw [hb j hj, hl j hj, hh j hj]
  have eg : fxGr n room b1 l1 h1 = fxGr n room b2 l2 h2 := by
    unfold fxGr
    rw [zsum_congr est]
  have ef : ∀ j, j < n → fxFac (fxGr n room b2 l2 h2) g1 k1 b1 j = fxFac (fxGr n room b2 l2 h2) g2 k2 b2 j := fun j hj => by
    unfold fxFac
    rw [hg j hj, hk j hj, hb j hj]
  show (fxIt n (fxGr n room b1 l1 h1) room b1 l1 h1 (fxFac (fxGr n room b1 l1 h1) g1 k1 b1) (fxStart b1 l1 h1, fxSt0 (fxGr n room b1 l1 h1) b1 l1 h1 (fxFac (fxGr n room b1 l1 h1) g1 k1 b1)) n).1 j = _
  rw [eg]
  exact (fxIt_congr hb hl hh ef (fun j hj => ⟨est j hj, by
    show fxSt0 _ _ _ _ _ j = fxSt0 _ _ _ _ _ j
    unfold fxSt0
    rw [ef j hj, est j hj, hb j hj]⟩) n j hj).1
end
/-! a segment of a chain -/
def zseg (P : Nat → Nat → Option Nat) (L : List Nat) : Prop := ∀ i x, L[i]? = some x → P x 7 = L[i + 1]?
theorem zlist_inj {L : List Nat} (hn : L.Nodup) {i k x : Nat} (h1 : L[i]? = some x) (h2 : L[k]? = some x) : i = k := by
  exact (List.getElem?_inj (List.getElem?_eq_some_iff.mp h1).1 hn).mp (h1.trans h2.symm)
/-- the widths (fld 14) or heights (15) of the boxes a, a + 1 .. below i of L are those of f; nothing else of I changed -/
def zset1 (fld : Nat) (L : List Nat) (a i : Nat) (f : Nat → Int32) (I I' : Nat → Nat → Int32) : Prop := (∀ q j, ¬ (j = fld ∧ ∃ k, a ≤ k ∧ k < i ∧ L[k]? = some q) → I' q j = I q j) ∧ ∀ k q, a ≤ k → k < i → L[k]? = some q → I' q fld = f (k - a)
theorem zset1_0 (fld : Nat) (L : List Nat) (a : Nat) (f : Nat → Int32) (I : Nat → Nat → Int32) : zset1 fld L a a f I I := ⟨fun _ _ _ => rfl, fun k q h1 h2 _ => absurd h2 (Nat.not_lt.mpr h1)⟩
theorem zset1_s {fld : Nat} {L : List Nat} {a i x : Nat} {f : Nat → Int32} {I I' : Nat → Nat → Int32} (hn : L.Nodup) (hx : L[i]? = some x) (hai : a ≤ i) (h : zset1 fld L a i f I I') {v : Int32} (hv : v = f (i - a)) : zset1 fld L a (i + 1) f I (z_u I' x fld v) := by
  subst hv
  refine ⟨fun q j hq => ?_, fun k q h1 h2 h3 => ?_⟩
  · rw [z_u_r2 _ (fun z => hq ⟨z.2, i, hai, Nat.lt_succ_self _, by rw [z.1]; exact hx⟩)]
    exact h.1 q j (fun z => hq ⟨z.1, by obtain ⟨k, z1, z2, z3⟩ := z.2; exact ⟨k, z1, by omega, z3⟩⟩)
  · by_cases e : k = i
    · subst e
      rw [hx] at h3
      cases h3
      rw [z_u_s]
    · rw [z_u_a _ _ (fun z => e (zlist_inj hn (by rw [← z]; exact h3) hx))]
      exact h.2 k q h1 (by omega) h3
/-- what flexKids leaves -/
def zflexQ (wd : Bool) (L : List Nat) (a z : Nat) (sp gp : Int32) (I : Nat → Nat → Int32) (P : Nat → Nat → Option Nat) (J : Nat → Nat → Int64) : Option Value → (Nat → Nat → Int32) → (Nat → Nat → Option Nat) → (Nat → Nat → Int64) → Prop := fun v I' P' J' => v = none ∧ P' = P ∧ J' = J ∧
  (∀ q j, ¬ (q = 83 ∧ (j = 9 ∨ j = 10)) → ¬ (86 ≤ q ∧ q ≤ 94) → ¬ (j = (if wd = true then 14 else 15) ∧ ∃ k, a ≤ k ∧ k < z ∧ L[k]? = some q) → I' q j = I q j) ∧
  ∀ k q, a ≤ k → k < z → L[k]? = some q → I' q (if wd = true then 14 else 15) = fxSz (z - a) (sp - zsum (fun j => 2 * I (40 + L.getD (a + j) 0) 6) (z - a) - zgap (nI (z - a)) gp) (fun j => zbase I (L.getD (a + j) 0) wd) (fun j => I (40 + L.getD (a + j) 0) (if wd = true then 12 else 13)) (fun j => I (40 + L.getD (a + j) 0) (if wd = true then 14 else 15)) (fun j => I (40 + L.getD (a + j) 0) 8) (fun j => I (40 + L.getD (a + j) 0) 9) (k - a)
end ZFK
