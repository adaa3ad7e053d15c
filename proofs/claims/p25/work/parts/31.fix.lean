section ZFX
def zdn (σ : zS) (c : Int32) (G : Nat → Int32 → Int32) : Nat → Nat → Int32
  | 0, _ => 0
  | f + 1, b => if b = 0 then c else G b (zdn σ c G f (sPa σ b))
theorem sPa_lt {σ : zS} (hw : sWF σ) {b : Nat} (he : sEx σ b = true) (h0 : b ≠ 0) : sPa σ b < b ∧ sEx σ (sPa σ b) = true := hw.2.2.2.2.1 b he h0
theorem zdn_st {σ : zS} (hw : sWF σ) (c : Int32) (G : Nat → Int32 → Int32) : ∀ (n b f f' : Nat), b < n → sEx σ b = true → b < f → b < f' → zdn σ c G f b = zdn σ c G f' b
  | 0, _, _, _, h, _, _, _ => absurd h (Nat.not_lt_zero _)
  | n + 1, b, f, f', h, he, h1, h2 => by
    cases f with
    | zero => exact absurd h1 (Nat.not_lt_zero _)
    | succ f =>
      cases f' with
      | zero => exact absurd h2 (Nat.not_lt_zero _)
      | succ f' =>
        show (if b = 0 then c else G b (zdn σ c G f (sPa σ b))) = (if b = 0 then c else G b (zdn σ c G f' (sPa σ b)))
        by_cases e : b = 0
        · rw [if_pos e, if_pos e]
        · have q := sPa_lt hw he e
          rw [if_neg e, if_neg e, zdn_st hw c G n (sPa σ b) f f' (by omega) q.2 (by omega) (by omega)]
theorem zdn_fix {σ : zS} (hw : sWF σ) (c : Int32) (G : Nat → Int32 → Int32) {b : Nat} (he : sEx σ b = true) (hb : b < 40) (h0 : b ≠ 0) : zdn σ c G 41 b = G b (zdn σ c G 41 (sPa σ b)) := by
  have q := sPa_lt hw he h0
  show (if b = 0 then c else G b (zdn σ c G 40 (sPa σ b))) = _
  rw [if_neg h0, zdn_st hw c G 40 (sPa σ b) 40 41 (by omega) q.2 (by omega) (by omega)]
theorem sIx_kd {σ : zS} (hw : sWF σ) {p i : Nat} (hi : i < kn σ p) : sPa σ (kd σ p i) = p ∧ sIx σ (kd σ p i) = i := by
  have h := sKids_lt hw (kd_mem hi)
  refine ⟨h.2.2.2.1, ?_⟩
  unfold sIx
  rw [h.2.2.2.1]
  have h1 : (sKids σ p).idxOf (kd σ p i) < (sKids σ p).length := List.idxOf_lt_length_of_mem (kd_mem hi)
  have h2 : (sKids σ p)[(sKids σ p).idxOf (kd σ p i)]? = some (kd σ p i) := by
    rw [List.getElem?_eq_getElem h1, List.getElem_idxOf]
  exact zlist_inj sKids_nd h2 (sKids_at hi)
theorem sWDf_dn (σ : zS) : ∀ f b, sWDf σ f b = zdn σ (sVw σ) (fun b r => sKW σ (sNW σ) (sPa σ b) r (sIx σ b)) f b
  | 0, _ => rfl
  | f + 1, b => by
    show (if b = 0 then sVw σ else sKW σ (sNW σ) (sPa σ b) (sWDf σ f (sPa σ b)) (sIx σ b)) = _
    rw [sWDf_dn σ f]
    rfl
theorem sHTf_dn (σ : zS) : ∀ f b, sHTf σ f b = zdn σ (sVh σ) (fun b r => sKH σ (sPa σ b) r (sIx σ b)) f b
  | 0, _ => rfl
  | f + 1, b => by
    show (if b = 0 then sVh σ else sKH σ (sPa σ b) (sHTf σ f (sPa σ b)) (sIx σ b)) = _
    rw [sHTf_dn σ f]
    rfl
theorem sXf_dn (σ : zS) : ∀ f b, sXf σ f b = zdn σ 0 (fun b r => r + sSt σ (sPa σ b) 5 + sKX σ (sPa σ b) (sIx σ b)) f b
  | 0, _ => rfl
  | f + 1, b => by
    show (if b = 0 then 0 else sXf σ f (sPa σ b) + sSt σ (sPa σ b) 5 + sKX σ (sPa σ b) (sIx σ b)) = _
    rw [sXf_dn σ f]
    rfl
theorem sYf_dn (σ : zS) : ∀ f b, sYf σ f b = zdn σ 0 (fun b r => r + sSt σ (sPa σ b) 5 + sKY σ (sPa σ b) (sIx σ b)) f b
  | 0, _ => rfl
  | f + 1, b => by
    show (if b = 0 then 0 else sYf σ f (sPa σ b) + sSt σ (sPa σ b) 5 + sKY σ (sPa σ b) (sIx σ b)) = _
    rw [sYf_dn σ f]
    rfl
theorem sWD_kd {σ : zS} (hw : sWF σ) {p i : Nat} (hi : i < kn σ p) : sWD σ (kd σ p i) = sKW σ (sNW σ) p (sWD σ p) i := by
  have h := sKids_lt hw (kd_mem hi)
  have e := sIx_kd hw hi
  unfold sWD
  rw [sWDf_dn, zdn_fix hw _ _ h.2.2.1 h.2.1 h.2.2.2.2, ← sWDf_dn, e.1, e.2]
theorem sHT_kd {σ : zS} (hw : sWF σ) {p i : Nat} (hi : i < kn σ p) : sHT σ (kd σ p i) = sKH σ p (sHT σ p) i := by
  have h := sKids_lt hw (kd_mem hi)
  have e := sIx_kd hw hi
  unfold sHT
  rw [sHTf_dn, zdn_fix hw _ _ h.2.2.1 h.2.1 h.2.2.2.2, ← sHTf_dn, e.1, e.2]
theorem sX_kd {σ : zS} (hw : sWF σ) {p i : Nat} (hi : i < kn σ p) : sX σ (kd σ p i) = sX σ p + sSt σ p 5 + sKX σ p i := by
  have h := sKids_lt hw (kd_mem hi)
  have e := sIx_kd hw hi
  unfold sX
  rw [sXf_dn, zdn_fix hw _ _ h.2.2.1 h.2.1 h.2.2.2.2, ← sXf_dn, e.1, e.2]
theorem sY_kd {σ : zS} (hw : sWF σ) {p i : Nat} (hi : i < kn σ p) : sY σ (kd σ p i) = sY σ p + sSt σ p 5 + sKY σ p i := by
  have h := sKids_lt hw (kd_mem hi)
  have e := sIx_kd hw hi
  unfold sY
  rw [sYf_dn, zdn_fix hw _ _ h.2.2.1 h.2.1 h.2.2.2.2, ← sYf_dn, e.1, e.2]
theorem sWD_0 (σ : zS) : sWD σ 0 = sVw σ := rfl
theorem sHT_0 (σ : zS) : sHT σ 0 = sVh σ := rfl
theorem sX_0 (σ : zS) : sX σ 0 = 0 := rfl
theorem sY_0 (σ : zS) : sY σ 0 = 0 := rfl
/-! upward: a box's kids have greater numbers -/
theorem sO_congr {σ : zS} {v v' : Nat → Int32} {p i : Nat} (h : ∀ k, k ∈ sKids σ p → v k = v' k) (hi : i < kn σ p) : sO σ v (kd σ p i) = sO σ v' (kd σ p i) := by
  unfold sO
  rw [h _ (kd_mem hi)]
theorem sNWs_congr {σ : zS} {v v' : Nat → Int32} {p : Nat} (h : ∀ k, k ∈ sKids σ p → v k = v' k) : sNWs σ v p = sNWs σ v' p := by
  unfold sNWs sCW
  rw [zmx_congr (g := fun i => sO σ v' (kd σ p i)) (fun i hi => sO_congr h hi), zsum_congr (g := fun i => sO σ v' (kd σ p i)) (fun i hi => sO_congr h hi)]
theorem sLH_congr {σ : zS} {v v' : Nat → Int32} {p : Nat} (h : ∀ k, k ∈ sKids σ p → v k = v' k) (W : Int32) (l : Nat) : sLH σ v p W l = sLH σ v' p W l := by
  unfold sLH
  exact zmx_congr (fun i hi => by rw [sO_congr h hi])
theorem sNHs_congr {σ : zS} {v v' : Nat → Int32} {p : Nat} (h : ∀ k, k ∈ sKids σ p → v k = v' k) : sNHs σ v p = sNHs σ v' p := by
  unfold sNHs sCH
  rw [zsum_congr (f := fun i => sO σ v (kd σ p i)) (g := fun i => sO σ v' (kd σ p i)) (fun i hi => sO_congr h hi), zsum_congr (f := sLH σ v p (sWD σ p)) (g := sLH σ v' p (sWD σ p)) (fun l _ => sLH_congr h _ l)]
theorem sNWf_st {σ : zS} (hw : sWF σ) : ∀ (f f' b : Nat), 40 - b < f → 40 - b < f' → sNWf σ f b = sNWf σ f' b
  | 0, _, _, h, _ => absurd h (Nat.not_lt_zero _)
  | _, 0, _, _, h => absurd h (Nat.not_lt_zero _)
  | f + 1, f' + 1, b, h1, h2 => sNWs_congr (v := sNWf σ f) (v' := sNWf σ f') (fun k hk => sNWf_st hw f f' k (by have := sKids_lt hw hk; omega) (by have := sKids_lt hw hk; omega))
theorem sNHf_st {σ : zS} (hw : sWF σ) : ∀ (f f' b : Nat), 40 - b < f → 40 - b < f' → sNHf σ f b = sNHf σ f' b
  | 0, _, _, h, _ => absurd h (Nat.not_lt_zero _)
  | _, 0, _, _, h => absurd h (Nat.not_lt_zero _)
  | f + 1, f' + 1, b, h1, h2 => sNHs_congr (v := sNHf σ f) (v' := sNHf σ f') (fun k hk => sNHf_st hw f f' k (by have := sKids_lt hw hk; omega) (by have := sKids_lt hw hk; omega))
theorem sNW_fix {σ : zS} (hw : sWF σ) (b : Nat) : sNW σ b = sNWs σ (sNW σ) b := sNWs_congr (v := sNWf σ 40) (v' := sNW σ) (fun k hk => sNWf_st hw 40 41 k (by have := sKids_lt hw hk; omega) (by omega))
theorem sNH_fix {σ : zS} (hw : sWF σ) (b : Nat) : sNH σ b = sNHs σ (sNH σ) b := sNHs_congr (v := sNHf σ 40) (v' := sNH σ) (fun k hk => sNHf_st hw 40 41 k (by have := sKids_lt hw hk; omega) (by omega))
theorem sNW_bd {σ : zS} (hw : sWF σ) (p : Nat) : zbd σ p (sNW σ) := fun k hk => by
  have h := sKids_lt hw hk
  have q := sSt_p hw h.2.2.1
  rw [sNW_fix hw k]
  unfold sNWs sLimW
  rw [if_neg h.2.2.2.2]
  exact zlim_rng q.2.2.2.2.2.1 q.2.2.2.2.2.2.2.1
theorem sNH_bd {σ : zS} (hw : sWF σ) (p : Nat) : zbd σ p (sNH σ) := fun k hk => by
  have h := sKids_lt hw hk
  have q := sSt_p hw h.2.2.1
  rw [sNH_fix hw k]
  unfold sNHs sLimH
  rw [if_neg h.2.2.2.2]
  exact zlim_rng q.2.2.2.2.2.2.1 q.2.2.2.2.2.2.2.2.1
theorem zsetv_app {fl : List Nat} {L : List Nat} {a b c : Nat} {v v' : Nat → Nat → Int32} {I I1 I2 : Nat → Nat → Int32} (hn : L.Nodup) (hab : a ≤ b) (hbc : b ≤ c) (h1 : zsetv fl L a b v I I1) (h2 : zsetv fl L b c v' I1 I2) (hv : ∀ k, b ≤ k → k < c → ∀ j ∈ fl, v' k j = v k j) : zsetv fl L a c v I I2 := by
  refine ⟨fun q j hq => ?_, fun k q k1 k2 hk j hj => ?_⟩
  · rw [h2.1 q j (fun z => hq ⟨z.1, by obtain ⟨_, k, z1, z2, z3⟩ := z; exact ⟨k, by omega, z2, z3⟩⟩)]
    exact h1.1 q j (fun z => hq ⟨z.1, by obtain ⟨_, k, z1, z2, z3⟩ := z; exact ⟨k, z1, by omega, z3⟩⟩)
  · rcases Nat.lt_or_ge k b with e | e
    · rw [h2.1 q j (fun z => by
        obtain ⟨_, k', z1, _, z3⟩ := z
        have := zlist_inj hn z3 hk
        omega)]
      exact h1.2 k q k1 e hk j hj
    · rw [h2.2 k q e k2 hk j hj]
      exact hv k e k2 j hj
theorem zss (x y z : Int32) : x - y - z = x - (y + z) := Int32.sub_sub x y z
theorem zsc (x y z : Int32) : x - y - z = x - z - y := by rw [zss, zss, Int32.add_comm y z]
end ZFX
