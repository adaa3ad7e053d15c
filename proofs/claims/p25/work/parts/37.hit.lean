section ZHT
def zor (f : Nat → Bool) : Nat → Bool
  | 0 => false
  | n + 1 => zor f n || f n
theorem zor_f {f : Nat → Bool} {n : Nat} (h : f n = false) : zor f (n + 1) = zor f n := by
  show (zor f n || f n) = _
  rw [h, Bool.or_false]
theorem zor_t {f : Nat → Bool} {n : Nat} (h : f n = true) : zor f (n + 1) = true := by
  show (zor f n || f n) = _
  rw [h, Bool.or_true]
def zB2 (c : Bool) : Int32 := if c = true then 2 else 0
def sOvX (σ : zS) (p : Nat) : Nat → Bool := fun i => decide (sX σ p + sWD σ p - sSt σ p 5 < sX σ (kd σ p i) + sWD σ (kd σ p i) + sSt σ (kd σ p i) 6)
def sOvY (σ : zS) (p : Nat) : Nat → Bool := fun i => decide (sY σ p + sHT σ p - sSt σ p 5 < sY σ (kd σ p i) + sHT σ (kd σ p i) + sSt σ (kd σ p i) 6)
def sOv (σ : zS) (p : Nat) : Int32 := zB (zor (sOvX σ p) (kn σ p)) + zB2 (zor (sOvY σ p) (kn σ p))
def sOvT (σ : zS) (p : Nat) : Int32 := zB (decide (0 < sSt σ p 19 ∧ sIn (sWD σ p) (sSt σ p 5) < 8)) + zB2 (decide (sIn (sHT σ p) (sSt σ p 5) < 16 * sLC σ (sNW σ) p (sWD σ p)))
/-! what is painted after a box -/
def sNk (σ : zS) (c : Nat) : Option Nat := if c = 0 then none else (sKids σ (sPa σ c))[sIx σ c + 1]?
def sPp (σ : zS) (c : Nat) : Option Nat := if c = 0 then none else some (sPa σ c)
def sAfF (σ : zS) : Nat → Nat → Option Nat
  | 0, _ => none
  | f + 1, c => if c = 0 then none else (sNk σ c).or (sAfF σ f (sPa σ c))
def sAf (σ : zS) (c : Nat) : Option Nat := sAfF σ 41 c
def sNx (σ : zS) (b : Nat) : Option Nat := ((sKids σ b)[0]?).or (sAf σ b)
theorem sAfF_st {σ : zS} (hw : sWF σ) : ∀ (n b f f' : Nat), b < n → sEx σ b = true → b < f → b < f' → sAfF σ f b = sAfF σ f' b
  | 0, _, _, _, h, _, _, _ => absurd h (Nat.not_lt_zero _)
  | _, _, 0, _, _, _, h, _ => absurd h (Nat.not_lt_zero _)
  | _, _, _, 0, _, _, _, h => absurd h (Nat.not_lt_zero _)
  | n + 1, b, f + 1, f' + 1, h, he, h1, h2 => by
    show (if b = 0 then none else (sNk σ b).or (sAfF σ f (sPa σ b))) = (if b = 0 then none else (sNk σ b).or (sAfF σ f' (sPa σ b)))
    by_cases e : b = 0
    · rw [if_pos e, if_pos e]
    · have q := sPa_lt hw he e
      rw [if_neg e, if_neg e, sAfF_st hw n (sPa σ b) f f' (by omega) q.2 (by omega) (by omega)]
theorem sAf_0 (σ : zS) : sAf σ 0 = none := rfl
theorem sAf_fix {σ : zS} (hw : sWF σ) {b : Nat} (he : sEx σ b = true) (hb : b < 40) (h0 : b ≠ 0) : sAf σ b = (sNk σ b).or (sAf σ (sPa σ b)) := by
  have q := sPa_lt hw he h0
  show (if b = 0 then none else (sNk σ b).or (sAfF σ 40 (sPa σ b))) = _
  rw [if_neg h0, sAfF_st hw 40 (sPa σ b) 40 41 (by omega) q.2 (by omega) (by omega)]
  rfl
def sPreF (σ : zS) : Nat → Nat → List Nat
  | 0, _ => []
  | f + 1, b => b :: (sKids σ b).flatMap (sPreF σ f)
def sPr (σ : zS) (b : Nat) : List Nat := sPreF σ 41 b
theorem flatMap_congr2 {f g : Nat → List Nat} : ∀ {L : List Nat}, (∀ x ∈ L, f x = g x) → L.flatMap f = L.flatMap g
  | [], _ => rfl
  | x :: xs, h => by
    rw [List.flatMap_cons, List.flatMap_cons, h x List.mem_cons_self, flatMap_congr2 (fun y hy => h y (List.mem_cons_of_mem _ hy))]
theorem sPreF_st {σ : zS} (hw : sWF σ) : ∀ (f f' b : Nat), 40 - b < f → 40 - b < f' → sPreF σ f b = sPreF σ f' b
  | 0, _, _, h, _ => absurd h (Nat.not_lt_zero _)
  | _, 0, _, _, h => absurd h (Nat.not_lt_zero _)
  | f + 1, f' + 1, b, h1, h2 => by
    show b :: (sKids σ b).flatMap (sPreF σ f) = b :: (sKids σ b).flatMap (sPreF σ f')
    rw [flatMap_congr2 (fun k hk => sPreF_st hw f f' k (by have := sKids_lt hw hk; omega) (by have := sKids_lt hw hk; omega))]
theorem sPr_fix {σ : zS} (hw : sWF σ) (b : Nat) : sPr σ b = b :: (sKids σ b).flatMap (sPr σ) := by
  show b :: (sKids σ b).flatMap (sPreF σ 40) = _
  rw [flatMap_congr2 (g := sPr σ) (fun k hk => sPreF_st hw 40 41 k (by have := sKids_lt hw hk; omega) (by omega))]
def zrun (nx : Nat → Option Nat) : List Nat → Option Nat → Prop
  | [], _ => True
  | x :: xs, e => nx x = (xs.head?).or e ∧ zrun nx xs e
theorem zrun_app {nx : Nat → Option Nat} {B : List Nat} {e : Option Nat} (hB : zrun nx B e) : ∀ {A : List Nat}, zrun nx A ((B.head?).or e) → zrun nx (A ++ B) e
  | [], _ => hB
  | x :: xs, h => by
    refine ⟨?_, zrun_app hB h.2⟩
    rw [h.1]
    cases xs <;> rfl
theorem zrun_at {nx : Nat → Option Nat} {e : Option Nat} : ∀ {L : List Nat} {k x : Nat}, zrun nx L e → L[k]? = some x → nx x = (L[k + 1]?).or e
  | [], _, _, _, h => by simp at h
  | y :: ys, 0, x, h, hx => by
    simp at hx
    rw [← hx, h.1]
    cases ys <;> rfl
  | y :: ys, k + 1, x, h, hx => by
    have := zrun_at (L := ys) (k := k) (x := x) h.2 (by simpa using hx)
    rw [this]
    simp
theorem sPr_head {σ : zS} (hw : sWF σ) (b : Nat) : (sPr σ b).head? = some b := by rw [sPr_fix hw]; rfl
theorem sFm_head {σ : zS} (hw : sWF σ) : ∀ (K : List Nat), (K.flatMap (sPr σ)).head? = K.head?
  | [] => rfl
  | x :: xs => by
    rw [List.flatMap_cons, sPr_fix hw]
    rfl
theorem sNk_kid {σ : zS} (hw : sWF σ) {b i : Nat} (hi : i < kn σ b) : sNk σ (kd σ b i) = (sKids σ b)[i + 1]? := by
  have h := sKids_lt hw (kd_mem hi)
  have e := sIx_kd hw hi
  unfold sNk
  rw [if_neg h.2.2.2.2, e.1, e.2]
theorem sPr_run {σ : zS} (hw : sWF σ) : ∀ (n b : Nat), 40 - b < n → zrun (sNx σ) (sPr σ b) (sAf σ b)
  | 0, _, h => absurd h (Nat.not_lt_zero _)
  | n + 1, b, h => by
    have key : ∀ (d i : Nat), i + d = kn σ b → zrun (sNx σ) (((sKids σ b).drop i).flatMap (sPr σ)) (sAf σ b) := by
      intro d
      induction d with
      | zero =>
        intro i hi
        rw [List.drop_eq_nil_of_le (by show (sKids σ b).length ≤ i; have : kn σ b = (sKids σ b).length := rfl; omega)]
        trivial
      | succ d ih =>
        intro i hi
        have hik : i < kn σ b := by omega
        have hk := sKids_lt hw (kd_mem hik)
        have e0 : (sKids σ b).drop i = kd σ b i :: (sKids σ b).drop (i + 1) := by
          rw [List.drop_eq_getElem_cons (show i < (sKids σ b).length from hik)]
          congr 1
          have q := sKids_at hik
          rw [List.getElem?_eq_getElem (show i < (sKids σ b).length from hik)] at q
          exact Option.some.inj q
        rw [e0, List.flatMap_cons]
        refine zrun_app (ih (i + 1) (by omega)) ?_
        have r := sPr_run hw n (kd σ b i) (by omega)
        rw [sAf_fix hw hk.2.2.1 hk.2.1 hk.2.2.2.2, sNk_kid hw hik, hk.2.2.2.1] at r
        rw [sFm_head hw, List.head?_drop]
        exact r
    rw [sPr_fix hw]
    refine ⟨?_, key (kn σ b) 0 (Nat.zero_add _)⟩
    rw [sFm_head hw, List.head?_eq_getElem?]
    rfl
theorem sPr_mem {σ : zS} (hw : sWF σ) : ∀ (n b x : Nat), 40 - b < n → x ∈ sPr σ b → x = b ∨ (b < x ∧ x ∈ sKids σ (sPa σ x) ∧ sPa σ x ∈ sPr σ b)
  | 0, _, _, h, _ => absurd h (Nat.not_lt_zero _)
  | n + 1, b, x, h, hx => by
    rw [sPr_fix hw] at hx ⊢
    rcases List.mem_cons.mp hx with e | e
    · exact Or.inl e
    · right
      obtain ⟨c, hc, hxc⟩ := List.mem_flatMap.mp e
      have hcl := sKids_lt hw hc
      rcases sPr_mem hw n c x (by omega) hxc with e2 | ⟨e2, e3, e4⟩
      · subst e2
        rw [hcl.2.2.2.1]
        exact ⟨hcl.1, hc, List.mem_cons_self⟩
      · exact ⟨by omega, e3, List.mem_cons_of_mem _ (List.mem_flatMap.mpr ⟨c, hc, e4⟩)⟩
theorem sPr_disj {σ : zS} (hw : sWF σ) {b c c' : Nat} (hc : c ∈ sKids σ b) (hc' : c' ∈ sKids σ b) : ∀ (n x : Nat), x < n → x ∈ sPr σ c → x ∈ sPr σ c' → c = c'
  | 0, _, h, _, _ => absurd h (Nat.not_lt_zero _)
  | n + 1, x, h, h1, h2 => by
    have k1 := sKids_lt hw hc
    have k2 := sKids_lt hw hc'
    have ge : ∀ d y, y ∈ sPr σ d → d ≤ y := fun d y hy => by
      rcases sPr_mem hw 41 d y (by omega) hy with e | e
      · omega
      · omega
    rcases sPr_mem hw 41 c x (by omega) h1 with e1 | ⟨e1, e2, e3⟩
    · subst e1
      rcases sPr_mem hw 41 c' x (by omega) h2 with q1 | ⟨q1, q2, q3⟩
      · exact q1
      · rw [k1.2.2.2.1] at q3
        have := ge _ _ q3
        omega
    · rcases sPr_mem hw 41 c' x (by omega) h2 with q1 | ⟨q1, q2, q3⟩
      · subst q1
        rw [k2.2.2.2.1] at e3
        have := ge _ _ e3
        omega
      · have := (sKids_lt hw e2).1
        exact sPr_disj hw hc hc' n (sPa σ x) (by omega) e3 q3
theorem sFm_nodup {f : Nat → List Nat} : ∀ {K : List Nat}, K.Nodup → (∀ c ∈ K, (f c).Nodup) → (∀ c ∈ K, ∀ c' ∈ K, ∀ x, x ∈ f c → x ∈ f c' → c = c') → (K.flatMap f).Nodup
  | [], _, _, _ => List.nodup_nil
  | c :: K, h, h1, h2 => by
    rw [List.flatMap_cons]
    refine List.nodup_append.mpr ⟨h1 c List.mem_cons_self, sFm_nodup (List.nodup_cons.mp h).2 (fun d hd => h1 d (List.mem_cons_of_mem _ hd)) (fun d hd d' hd' => h2 d (List.mem_cons_of_mem _ hd) d' (List.mem_cons_of_mem _ hd')), fun x hx y hy e => ?_⟩
    subst e
    obtain ⟨d, hd, hxd⟩ := List.mem_flatMap.mp hy
    have := h2 c List.mem_cons_self d (List.mem_cons_of_mem _ hd) x hx hxd
    subst this
    exact (List.nodup_cons.mp h).1 hd
theorem sPr_nodup {σ : zS} (hw : sWF σ) : ∀ (n b : Nat), 40 - b < n → (sPr σ b).Nodup
  | 0, _, h => absurd h (Nat.not_lt_zero _)
  | n + 1, b, h => by
    rw [sPr_fix hw]
    refine List.nodup_cons.mpr ⟨fun q => ?_, sFm_nodup sKids_nd (fun c hc => sPr_nodup hw n c (by have := sKids_lt hw hc; omega)) (fun c hc c' hc' x h1 h2 => sPr_disj hw hc hc' (x + 1) x (Nat.lt_succ_self _) h1 h2)⟩
    obtain ⟨c, hc, hbc⟩ := List.mem_flatMap.mp q
    have := (sKids_lt hw hc).1
    rcases sPr_mem hw 41 c b (by omega) hbc with e | e
    · omega
    · omega
theorem sPr_sh {σ : zS} (hw : sWF σ) : ∀ (n x : Nat), x < n → x ∈ sPr σ 0 → sSh σ x = true
  | 0, _, h, _ => absurd h (Nat.not_lt_zero _)
  | n + 1, x, h, hx => by
    rcases sPr_mem hw 41 0 x (by omega) hx with e | ⟨e1, e2, e3⟩
    · rw [e]; exact sSh_0
    · exact sKids_sh hw (sPr_sh hw n (sPa σ x) (by have := (sKids_lt hw e2).1; omega) e3) e2
theorem sPr_len {σ : zS} (hw : sWF σ) : (sPr σ 0).length ≤ 40 := by
  have hs : ∀ x, x ∈ sPr σ 0 → x ∈ List.range 40 := fun x hx => List.mem_range.mpr (sSh_ex hw (sPr_sh hw (x + 1) x (Nat.lt_succ_self _) hx)).1
  have := List.Nodup.length_le_of_subset (sPr_nodup hw 41 0 (by decide)) hs
  rw [List.length_range] at this
  exact this
theorem sPr_at {σ : zS} (hw : sWF σ) {k x : Nat} (h : (sPr σ 0)[k]? = some x) : sSh σ x = true ∧ sNx σ x = (sPr σ 0)[k + 1]? := by
  refine ⟨sPr_sh hw (x + 1) x (Nat.lt_succ_self _) (List.mem_of_getElem? h), ?_⟩
  have := zrun_at (sPr_run hw 41 0 (by decide)) h
  rw [this, sAf_0, Option.or_none]
theorem sPr_0 {σ : zS} (hw : sWF σ) : (sPr σ 0)[0]? = some 0 := by rw [sPr_fix hw]; rfl
def scov (σ : zS) (px py : Int32) (b : Nat) : Bool := decide (sX σ b ≤ px) && (decide (px < sX σ b + sWD σ b) && (decide (sY σ b ≤ py) && decide (py < sY σ b + sHT σ b)))
def zlast (f : Nat → Bool) (L : List Nat) : Nat → Int32
  | 0 => -1
  | k + 1 => match L[k]? with
    | some x => if f x = true then nI x else zlast f L k
    | none => zlast f L k
theorem zlast_end {f : Nat → Bool} {L : List Nat} {k : Nat} (h : L[k]? = none) : ∀ d, zlast f L (k + d) = zlast f L k
  | 0 => rfl
  | d + 1 => by
    have e : L[k + d]? = none := List.getElem?_eq_none_iff.mpr (by have := List.getElem?_eq_none_iff.mp h; omega)
    show (match L[k + d]? with | some x => if f x = true then nI x else zlast f L (k + d) | none => zlast f L (k + d)) = _
    rw [e]
    exact zlast_end h d
theorem zlast_s {f : Nat → Bool} {L : List Nat} {k x : Nat} (h : L[k]? = some x) : zlast f L (k + 1) = if f x = true then nI x else zlast f L k := by
  show (match L[k]? with | some x => if f x = true then nI x else zlast f L k | none => zlast f L k) = _
  rw [h]
def sHit (σ : zS) (px py : Int32) : Int32 := zlast (scov σ px py) (sPr σ 0) 40
end ZHT
