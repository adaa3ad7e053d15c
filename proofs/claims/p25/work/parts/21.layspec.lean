section ZLS
/-! THE LAYOUT as functions of the tree -/
def zmx (f : Nat → Int32) : Nat → Int32
  | 0 => 0
  | n + 1 => if zmx f n < f n then f n else zmx f n
theorem zmx_congr {f g : Nat → Int32} : ∀ {n : Nat}, (∀ j, j < n → f j = g j) → zmx f n = zmx g n
  | 0, _ => rfl
  | n + 1, h => by
    show (if zmx f n < f n then f n else zmx f n) = (if zmx g n < g n then g n else zmx g n)
    rw [zmx_congr (fun j hj => h j (by omega)), h n (by omega)]
abbrev kd (σ : zS) (p i : Nat) : Nat := (sKids σ p).getD i 0
abbrev kn (σ : zS) (p : Nat) : Nat := (sKids σ p).length
def sIn (w pad : Int32) : Int32 := zpos (w - 2 * pad)
def sB (σ : zS) (nat : Nat → Int32) (b : Nat) : Int32 := if sSt σ b 7 = -1 then nat b else sSt σ b 7
def sO (σ : zS) (v : Nat → Int32) (b : Nat) : Int32 := v b + 2 * sSt σ b 6
def sAl (σ : zS) (b : Nat) : Int32 := if sSt σ b 16 = -1 then sSt σ (sPa σ b) 3 else sSt σ b 16
def sLimW (σ : zS) (b : Nat) (x : Int32) : Int32 := if b = 0 then x else zlim x (sSt σ b 12) (sSt σ b 14)
def sLimH (σ : zS) (b : Nat) (x : Int32) : Int32 := if b = 0 then x else zlim x (sSt σ b 13) (sSt σ b 15)
def sFix (σ : zS) (b k : Nat) : Int32 := if b = 0 then -1 else sSt σ b k
/-- step 1 -/
def sCW (σ : zS) (nw : Nat → Int32) (b : Nat) : Int32 := if sCon σ b = true then (if sSt σ b 0 = 1 then zmx (fun i => sO σ nw (kd σ b i)) (kn σ b) else zsum (fun i => sO σ nw (kd σ b i)) (kn σ b) + zgap (nI (kn σ b)) (sSt σ b 4)) else 8 * sSt σ b 19
def sNat (fix content pad : Int32) : Int32 := if fix = -1 then content + 2 * pad else fix
def sNWs (σ : zS) (nw : Nat → Int32) (b : Nat) : Int32 := sLimW σ b (sNat (sFix σ b 10) (sCW σ nw b) (sSt σ b 5))
def sNWf (σ : zS) : Nat → Nat → Int32
  | 0, _ => 0
  | f + 1, b => sNWs σ (sNWf σ f) b
def sNW (σ : zS) (b : Nat) : Int32 := sNWf σ 41 b
/-- lines -/
def sSO (σ : zS) (nw : Nat → Int32) (p i : Nat) : Int32 := zlim (sB σ nw (kd σ p i)) (sSt σ (kd σ p i) 12) (sSt σ (kd σ p i) 14) + 2 * sSt σ (kd σ p i) 6
def sLU (σ : zS) (nw : Nat → Int32) (p : Nat) (W : Int32) : Nat → Nat × Int32
  | 0 => (0, sSO σ nw p 0)
  | i + 1 => if sSt σ p 1 = 1 ∧ sIn W (sSt σ p 5) < (sLU σ nw p W i).2 + sSt σ p 4 + sSO σ nw p (i + 1) then ((sLU σ nw p W i).1 + 1, sSO σ nw p (i + 1)) else ((sLU σ nw p W i).1, (sLU σ nw p W i).2 + sSt σ p 4 + sSO σ nw p (i + 1))
def sLn (σ : zS) (nw : Nat → Int32) (p : Nat) (W : Int32) (i : Nat) : Nat := if sSt σ p 0 = 1 then i else (sLU σ nw p W i).1
def sLCn (σ : zS) (nw : Nat → Int32) (p : Nat) (W : Int32) : Nat := if kn σ p = 0 then 0 else sLn σ nw p W (kn σ p - 1) + 1
def sLC (σ : zS) (nw : Nat → Int32) (b : Nat) (W : Int32) : Int32 := if sCon σ b = true then nI (sLCn σ nw b W) else ztl (sSt σ b 19) (sIn W (sSt σ b 5))
def zendF (ln : Nat → Nat) (n l : Nat) : Nat → Nat → Nat
  | 0, i => i
  | f + 1, i => if i < n ∧ ln i = l then zendF ln n l f (i + 1) else i
def zend (ln : Nat → Nat) (n a : Nat) : Nat := zendF ln n (ln a) (n - a) a
def zbeg (ln : Nat → Nat) : Nat → Nat
  | 0 => 0
  | i + 1 => if ln (i + 1) = ln i then zbeg ln i else i + 1
/-- sizes by FLEXING of the boxes a .. z - 1 of p: of the k-th -/
def sFx (σ : zS) (p : Nat) (wd : Bool) (nat : Nat → Int32) (inner : Int32) (a z k : Nat) : Int32 := fxSz (z - a) (inner - zsum (fun j => 2 * sSt σ (kd σ p (a + j)) 6) (z - a) - zgap (nI (z - a)) (sSt σ p 4)) (fun j => sB σ nat (kd σ p (a + j))) (fun j => sSt σ (kd σ p (a + j)) (if wd = true then 12 else 13)) (fun j => sSt σ (kd σ p (a + j)) (if wd = true then 14 else 15)) (fun j => sSt σ (kd σ p (a + j)) 8) (fun j => sSt σ (kd σ p (a + j)) 9) (k - a)
/-- step 2: the width of the i-th child of p, whose width is W -/
def sCoW (σ : zS) (nw : Nat → Int32) (p : Nat) (W : Int32) (b : Nat) : Int32 := zlim (if sSt σ b 10 = -1 then (if sAl σ b = 3 then zpos (sIn W (sSt σ p 5) - 2 * sSt σ b 6) else (if nw b < zpos (sIn W (sSt σ p 5) - 2 * sSt σ b 6) then nw b else zpos (sIn W (sSt σ p 5) - 2 * sSt σ b 6))) else sSt σ b 10) (sSt σ b 12) (sSt σ b 14)
def sKW (σ : zS) (nw : Nat → Int32) (p : Nat) (W : Int32) (i : Nat) : Int32 := if sSt σ p 0 = 1 then sCoW σ nw p W (kd σ p i) else sFx σ p true nw (sIn W (sSt σ p 5)) (zbeg (sLn σ nw p W) i) (zend (sLn σ nw p W) (kn σ p) (zbeg (sLn σ nw p W) i)) i
def sIx (σ : zS) (b : Nat) : Nat := (sKids σ (sPa σ b)).idxOf b
def sWDf (σ : zS) : Nat → Nat → Int32
  | 0, _ => 0
  | f + 1, b => if b = 0 then sVw σ else sKW σ (sNW σ) (sPa σ b) (sWDf σ f (sPa σ b)) (sIx σ b)
def sWD (σ : zS) (b : Nat) : Int32 := sWDf σ 41 b
/-- step 3 -/
def sLH (σ : zS) (nh : Nat → Int32) (p : Nat) (W : Int32) (l : Nat) : Int32 := zmx (fun i => if sLn σ (sNW σ) p W i = l then sO σ nh (kd σ p i) else 0) (kn σ p)
def sCH (σ : zS) (nh : Nat → Int32) (b : Nat) : Int32 := if sCon σ b = true then (if sSt σ b 0 = 1 then zsum (fun i => sO σ nh (kd σ b i)) (kn σ b) + zgap (nI (kn σ b)) (sSt σ b 4) else zsum (sLH σ nh b (sWD σ b)) (sLCn σ (sNW σ) b (sWD σ b)) + zgap (nI (sLCn σ (sNW σ) b (sWD σ b))) (sSt σ b 4)) else 16 * sLC σ (sNW σ) b (sWD σ b)
def sNHs (σ : zS) (nh : Nat → Int32) (b : Nat) : Int32 := sLimH σ b (sNat (sFix σ b 11) (sCH σ nh b) (sSt σ b 5))
def sNHf (σ : zS) : Nat → Nat → Int32
  | 0, _ => 0
  | f + 1, b => sNHs σ (sNHf σ f) b
def sNH (σ : zS) (b : Nat) : Int32 := sNHf σ 41 b
/-- step 4 -/
def sHg (σ : zS) (p : Nat) (H : Int32) (l : Nat) : Int32 := if sSt σ p 1 = 1 then sLH σ (sNH σ) p (sWD σ p) l else sIn H (sSt σ p 5)
def sRoH (σ : zS) (b : Nat) (hg : Int32) : Int32 := zlim (if sSt σ b 11 = -1 then (if sAl σ b = 3 then zpos (hg - 2 * sSt σ b 6) else sNH σ b) else sSt σ b 11) (sSt σ b 13) (sSt σ b 15)
def sKH (σ : zS) (p : Nat) (H : Int32) (i : Nat) : Int32 := if sSt σ p 0 = 1 then sFx σ p false (sNH σ) (sIn H (sSt σ p 5)) 0 (kn σ p) i else sRoH σ (kd σ p i) (sHg σ p H (sLn σ (sNW σ) p (sWD σ p) i))
def sHTf (σ : zS) : Nat → Nat → Int32
  | 0, _ => 0
  | f + 1, b => if b = 0 then sVh σ else sKH σ (sPa σ b) (sHTf σ f (sPa σ b)) (sIx σ b)
def sHT (σ : zS) (b : Nat) : Int32 := sHTf σ 41 b
def sJu (how free : Int32) (k m : Nat) : Int32 := if free ≤ 0 then 0 else if how = 1 then free else if how = 2 then free / 2 else if how = 3 then (if m ≤ 1 then 0 else free * nI k / (nI m - 1)) else if how = 4 then free * (nI k + 1) / (nI m + 1) else 0
def sAs (how free : Int32) : Int32 := if free ≤ 0 then 0 else if how = 1 then free else if how = 2 then free / 2 else 0
/-- what stands before the k-th of the boxes from a on, with sizes v -/
def sBf (σ : zS) (p : Nat) (v : Nat → Int32) (a k : Nat) : Int32 := zsum (fun j => sO σ v (kd σ p (a + j)) + sSt σ p 4) (k - a)
/-- the free space of the boxes a .. z - 1 -/
def sFr (σ : zS) (p : Nat) (v : Nat → Int32) (inner : Int32) (a z : Nat) : Int32 := inner - zsum (fun j => sO σ v (kd σ p (a + j))) (z - a) - zgap (nI (z - a)) (sSt σ p 4)
/-- along: the place of the i-th of the boxes a .. z - 1 -/
def sAlo (σ : zS) (p : Nat) (v : Nat → Int32) (inner : Int32) (a z i : Nat) : Int32 := sBf σ p v a i + sJu (sSt σ p 2) (sFr σ p v inner a z) (i - a) (z - a) + sSt σ (kd σ p i) 6
def sAcr (σ : zS) (b : Nat) (size inner : Int32) : Int32 := sAs (sAl σ b) (inner - (size + 2 * sSt σ b 6)) + sSt σ b 6
/-- the place of the i-th child of p, relative to its inner area -/
def sKX (σ : zS) (p i : Nat) : Int32 := if sSt σ p 0 = 1 then sAcr σ (kd σ p i) (sWD σ (kd σ p i)) (sIn (sWD σ p) (sSt σ p 5)) else sAlo σ p (sWD σ) (sIn (sWD σ p) (sSt σ p 5)) (zbeg (sLn σ (sNW σ) p (sWD σ p)) i) (zend (sLn σ (sNW σ) p (sWD σ p)) (kn σ p) (zbeg (sLn σ (sNW σ) p (sWD σ p)) i)) i
def sKY (σ : zS) (p i : Nat) : Int32 := if sSt σ p 0 = 1 then sAlo σ p (sHT σ) (sIn (sHT σ p) (sSt σ p 5)) 0 (kn σ p) i else zsum (fun l => sHg σ p (sHT σ p) l + sSt σ p 4) (sLn σ (sNW σ) p (sWD σ p) i) + sAcr σ (kd σ p i) (sHT σ (kd σ p i)) (sHg σ p (sHT σ p) (sLn σ (sNW σ) p (sWD σ p) i))
def sXf (σ : zS) : Nat → Nat → Int32
  | 0, _ => 0
  | f + 1, b => if b = 0 then 0 else sXf σ f (sPa σ b) + sSt σ (sPa σ b) 5 + sKX σ (sPa σ b) (sIx σ b)
def sX (σ : zS) (b : Nat) : Int32 := sXf σ 41 b
def sYf (σ : zS) : Nat → Nat → Int32
  | 0, _ => 0
  | f + 1, b => if b = 0 then 0 else sYf σ f (sPa σ b) + sSt σ (sPa σ b) 5 + sKY σ (sPa σ b) (sIx σ b)
def sY (σ : zS) (b : Nat) : Int32 := sYf σ 41 b
/-! what of the memory the tree and its links need -/
def zKeep (a k : Nat) : Prop := (a < 40 ∧ (k = 0 ∨ k = 2 ∨ k = 4 ∨ k = 5 ∨ k = 8)) ∨ (40 ≤ a ∧ a < 82)
def zLay (I I' : Nat → Nat → Int32) : Prop := ∀ a k, zKeep a k → I' a k = I a k
theorem zLay.rf {I : Nat → Nat → Int32} : zLay I I := fun _ _ _ => rfl
theorem zLay.tr {I I1 I2 : Nat → Nat → Int32} (h1 : zLay I I1) (h2 : zLay I1 I2) : zLay I I2 := fun a k h => (h2 a k h).trans (h1 a k h)
theorem zLay.u {I I1 : Nat → Nat → Int32} {i j : Nat} {v : Int32} (h : zLay I I1) (hk : ¬ zKeep i j) : zLay I (z_u I1 i j v) := fun a k q => (z_u_r2 _ (fun z => hk (by rw [← z.1, ← z.2]; exact q))).trans (h a k q)
theorem zNK {a k : Nat} (h : a < 40) (hk : 9 ≤ k) : ¬ zKeep a k := by
  unfold zKeep
  omega
theorem zNK2 {a k : Nat} (h : 82 ≤ a) : ¬ zKeep a k := by
  unfold zKeep
  omega
theorem zTr.lay {σ : zS} {I I' : Nat → Nat → Int32} {P : Nat → Nat → Option Nat} (h : zTr σ I P) (hl : zLay I I') : zTr σ I' P := by
  obtain ⟨h1, h2, h3, h4, h5, h6, h7, h8, h9, h10⟩ := h
  refine ⟨h1, fun b hb => ?_, fun b hb => ?_, h4, h5, h6, fun b k hb hk => ?_, ?_, ?_, ?_⟩
  · rw [hl b 0 (Or.inl ⟨hb, Or.inl rfl⟩)]; exact h2 b hb
  · rw [hl b 2 (Or.inl ⟨hb, Or.inr (Or.inl rfl)⟩)]; exact h3 b hb
  · have := Nat.lt_of_lt_of_le (h1.2.2.2.1 b hb) h1.2.2.1
    rw [hl (40 + b) k (Or.inr ⟨by omega, by omega⟩)]; exact h7 b k hb hk
  · rw [hl 81 2 (Or.inr ⟨by omega, by omega⟩)]; exact h8
  · rw [hl 81 3 (Or.inr ⟨by omega, by omega⟩)]; exact h9
  · rw [hl 81 4 (Or.inr ⟨by omega, by omega⟩)]; exact h10
theorem zLk.lay {σ : zS} {I I' : Nat → Nat → Int32} {P : Nat → Nat → Option Nat} (h : zLk σ I P) (hl : zLay I I') : zLk σ I' P := by
  refine ⟨fun p hp => ?_, h.2⟩
  obtain ⟨h1, h2, h3, h4⟩ := h.1 p hp
  refine ⟨?_, ?_, ?_, h4⟩
  · rw [hl p 4 (Or.inl ⟨hp, by omega⟩)]; exact h1
  · rw [hl p 5 (Or.inl ⟨hp, by omega⟩)]; exact h2
  · rw [hl p 8 (Or.inl ⟨hp, by omega⟩)]; exact h3
theorem zTr_none {σ : zS} {I : Nat → Nat → Int32} {P : Nat → Nat → Option Nat} (h : zTr σ I P) {b : Nat} (he : sEx σ b = true) : (P b 3).isNone = decide (b = 0) := by
  by_cases e : b = 0
  · rw [e, h.2.2.2.2.1]; rfl
  · rw [h.2.2.2.1 b he e, decide_eq_false e]; rfl
theorem zlimW_S {σ : zS} {I : Nat → Nat → Int32} {P : Nat → Nat → Option Nat} (h : zTr σ I P) {b : Nat} (he : sEx σ b = true) (x : Int32) : zlimW I P b x = sLimW σ b x := by
  unfold zlimW sLimW
  rw [zTr_none h he, h.2.2.2.2.2.2.1 b 12 he (by decide), h.2.2.2.2.2.2.1 b 14 he (by decide)]
  simp
theorem zlimH_S {σ : zS} {I : Nat → Nat → Int32} {P : Nat → Nat → Option Nat} (h : zTr σ I P) {b : Nat} (he : sEx σ b = true) (x : Int32) : zlimH I P b x = sLimH σ b x := by
  unfold zlimH sLimH
  rw [zTr_none h he, h.2.2.2.2.2.2.1 b 13 he (by decide), h.2.2.2.2.2.2.1 b 15 he (by decide)]
  simp
theorem zfix_S {σ : zS} {I : Nat → Nat → Int32} {P : Nat → Nat → Option Nat} (h : zTr σ I P) {b k : Nat} (he : sEx σ b = true) (hk : k < 20) : zfix I P b k = sFix σ b k := by
  unfold zfix sFix
  rw [zTr_none h he, h.2.2.2.2.2.2.1 b k he hk]
  simp
theorem zali_S {σ : zS} {I : Nat → Nat → Int32} {P : Nat → Nat → Option Nat} (h : zTr σ I P) {b : Nat} (he : sEx σ b = true) (h0 : b ≠ 0) : zali I P b = sAl σ b := by
  unfold zali sAl
  rw [h.2.2.2.1 b he h0, h.2.2.2.2.2.2.1 b 16 he (by decide)]
  show (if sSt σ b 16 = -1 then I (40 + sPa σ b) 3 else _) = _
  rw [h.2.2.2.2.2.2.1 _ 3 (h.1.2.2.2.2.1 b he h0).2 (by decide)]
theorem zinW_S {σ : zS} {I : Nat → Nat → Int32} {P : Nat → Nat → Option Nat} (h : zTr σ I P) {b : Nat} (he : sEx σ b = true) {W : Int32} (hw : I b 14 = W) : zinW I b = sIn W (sSt σ b 5) := by
  unfold zinW sIn
  rw [h.2.2.2.2.2.2.1 b 5 he (by decide), hw]
theorem zinH_S {σ : zS} {I : Nat → Nat → Int32} {P : Nat → Nat → Option Nat} (h : zTr σ I P) {b : Nat} (he : sEx σ b = true) {W : Int32} (hw : I b 15 = W) : zinH I b = sIn W (sSt σ b 5) := by
  unfold zinH sIn
  rw [h.2.2.2.2.2.2.1 b 5 he (by decide), hw]
theorem zbase_S {σ : zS} {I : Nat → Nat → Int32} {P : Nat → Nat → Option Nat} (h : zTr σ I P) {b : Nat} (he : sEx σ b = true) (wd : Bool) : zbase I b wd = sB σ (fun b => I b (if wd = true then 10 else 11)) b := by
  unfold zbase sB
  rw [h.2.2.2.2.2.2.1 b 7 he (by decide)]
  cases wd <;> rfl
theorem sKids_get {σ : zS} {p i x : Nat} (h : (sKids σ p)[i]? = some x) : kd σ p i = x ∧ i < kn σ p ∧ x ∈ sKids σ p := by
  refine ⟨?_, (List.getElem?_eq_some_iff.mp h).1, List.mem_of_getElem? h⟩
  unfold kd
  rw [List.getD_eq_getElem?_getD, h]
  rfl
theorem sKids_at {σ : zS} {p i : Nat} (h : i < kn σ p) : (sKids σ p)[i]? = some (kd σ p i) := by
  unfold kd
  rw [List.getD_eq_getElem?_getD, List.getElem?_eq_getElem h]
  rfl
theorem kd_mem {σ : zS} {p i : Nat} (h : i < kn σ p) : kd σ p i ∈ sKids σ p := List.mem_of_getElem? (sKids_at h)
theorem zLk_seg {σ : zS} {I : Nat → Nat → Int32} {P : Nat → Nat → Option Nat} (h : zLk σ I P) {p : Nat} (hp : p < 40) : zseg P (sKids σ p) ∧ P p 6 = (sKids σ p)[0]? := ⟨fun _ _ hx => zchain_drop (h.1 p hp).2.2.2 hx, by rw [zchain_get (h.1 p hp).2.2.2, List.head?_eq_getElem?]⟩
theorem sKids_nd {σ : zS} {p : Nat} : (sKids σ p).Nodup := sKidsN_nodup
theorem zTr_lt {σ : zS} {I : Nat → Nat → Int32} {P : Nat → Nat → Option Nat} (h : zTr σ I P) {b : Nat} (he : sEx σ b = true) : b < 40 := Nat.lt_of_lt_of_le (h.1.2.2.2.1 b he) h.1.2.2.1
theorem zTr_st {σ : zS} {I : Nat → Nat → Int32} {P : Nat → Nat → Option Nat} (h : zTr σ I P) {b k : Nat} (he : sEx σ b = true) (hk : k < 20) : I (40 + b) k = sSt σ b k := h.2.2.2.2.2.2.1 b k he hk
theorem zTr_pb {σ : zS} {I : Nat → Nat → Int32} {P : Nat → Nat → Option Nat} (h : zTr σ I P) {b : Nat} (he : sEx σ b = true) : ∀ a, P b 3 = some a → a < 40 := fun a q => h.2.2.2.2.2.1 b a (zTr_lt h he) q
end ZLS
