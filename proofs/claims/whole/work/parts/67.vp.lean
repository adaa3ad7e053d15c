section ZVP
/-! what doesn't read the viewport -/
variable {σ : zS} {w v : Int32}
theorem sVp_kidsN (p : Nat) : ∀ n, sKidsN (sVp σ w v) p n = sKidsN σ p n
  | 0 => rfl
  | n + 1 => by
    show (if sV σ p n = true then zins (fun x => sSt σ x 17) n (sKidsN (sVp σ w v) p n) else sKidsN (sVp σ w v) p n) = (if sV σ p n = true then zins (fun x => sSt σ x 17) n (sKidsN σ p n) else sKidsN σ p n)
    rw [sVp_kidsN p n]
theorem sVp_kids (p : Nat) : sKids (sVp σ w v) p = sKids σ p := sVp_kidsN p 40
theorem sVp_conN (p : Nat) : ∀ n, sConN (sVp σ w v) p n = sConN σ p n
  | 0 => rfl
  | n + 1 => by
    show (sConN (sVp σ w v) p n || sK σ p n) = (sConN σ p n || sK σ p n)
    rw [sVp_conN p n]
theorem sVp_con (p : Nat) : sCon (sVp σ w v) p = sCon σ p := sVp_conN p 40
theorem sVp_shN : ∀ n b, sShN (sVp σ w v) n b = sShN σ n b
  | 0, _ => rfl
  | n + 1, b => by
    show (if b = n then decide (n = 0) || (sEx σ n && (decide (sSt σ n 18 = 0) && sShN (sVp σ w v) n (sPa σ n))) else sShN (sVp σ w v) n b) = (if b = n then decide (n = 0) || (sEx σ n && (decide (sSt σ n 18 = 0) && sShN σ n (sPa σ n))) else sShN σ n b)
    rw [sVp_shN n (sPa σ n), sVp_shN n b]
theorem sVp_sh (b : Nat) : sSh (sVp σ w v) b = sSh σ b := sVp_shN 40 b
theorem sVp_NWs (nw : Nat → Int32) (b : Nat) : sNWs (sVp σ w v) nw b = sNWs σ nw b := by
  unfold sNWs sCW
  simp only [kd, kn, sVp_kids, sVp_con]
  rfl
theorem sVp_NWf : ∀ f, sNWf (sVp σ w v) f = sNWf σ f
  | 0 => rfl
  | f + 1 => by
    funext b
    show sNWs (sVp σ w v) (sNWf (sVp σ w v) f) b = sNWs σ (sNWf σ f) b
    rw [sVp_NWf f, sVp_NWs]
theorem sVp_NW : sNW (sVp σ w v) = sNW σ := by
  funext b
  exact congrFun (sVp_NWf 41) b
theorem sVp_LU (nw : Nat → Int32) (p : Nat) (W : Int32) : ∀ i, sLU (sVp σ w v) nw p W i = sLU σ nw p W i
  | 0 => by
    show (0, sSO (sVp σ w v) nw p 0) = (0, sSO σ nw p 0)
    unfold sSO
    simp only [kd, sVp_kids]
    rfl
  | i + 1 => by
    have e : sSO (sVp σ w v) nw p (i + 1) = sSO σ nw p (i + 1) := by
      unfold sSO
      simp only [kd, sVp_kids]
      rfl
    show (if sSt σ p 1 = 1 ∧ sIn W (sSt σ p 5) < (sLU (sVp σ w v) nw p W i).2 + sSt σ p 4 + sSO (sVp σ w v) nw p (i + 1) then ((sLU (sVp σ w v) nw p W i).1 + 1, sSO (sVp σ w v) nw p (i + 1)) else ((sLU (sVp σ w v) nw p W i).1, (sLU (sVp σ w v) nw p W i).2 + sSt σ p 4 + sSO (sVp σ w v) nw p (i + 1))) = _
    rw [sVp_LU nw p W i, e]
    rfl
theorem sVp_Ln (nw : Nat → Int32) (p : Nat) (W : Int32) : sLn (sVp σ w v) nw p W = sLn σ nw p W := by
  funext i
  show (if sSt σ p 0 = 1 then i else (sLU (sVp σ w v) nw p W i).1) = _
  rw [sVp_LU]
  rfl
theorem sVp_LC (nw : Nat → Int32) (b : Nat) (W : Int32) : sLC (sVp σ w v) nw b W = sLC σ nw b W := by
  unfold sLC sLCn
  simp only [kn, sVp_kids, sVp_con, sVp_Ln]
  rfl
theorem sVp_KW (nw : Nat → Int32) (p : Nat) (W : Int32) (i : Nat) : sKW (sVp σ w v) nw p W i = sKW σ nw p W i := by
  unfold sKW sFx sCoW
  simp only [kd, kn, sVp_kids, sVp_Ln]
  rfl
theorem sVp_WDf : ∀ f b, sWDf (sVp σ w v) f b = zdn σ w (fun b r => sKW σ (sNW σ) (sPa σ b) r (sIx σ b)) f b
  | 0, _ => rfl
  | f + 1, b => by
    show (if b = 0 then w else sKW (sVp σ w v) (sNW (sVp σ w v)) (sPa σ b) (sWDf (sVp σ w v) f (sPa σ b)) (sIx (sVp σ w v) b)) = (if b = 0 then w else sKW σ (sNW σ) (sPa σ b) (zdn σ w (fun b r => sKW σ (sNW σ) (sPa σ b) r (sIx σ b)) f (sPa σ b)) (sIx σ b))
    have e : sIx (sVp σ w v) b = sIx σ b := by
      unfold sIx
      rw [sVp_kids]
      rfl
    rw [sVp_KW, sVp_NW, sVp_WDf f, e]
/-- the widths of σ with a viewport w wide are those with a root w wide -/
theorem sVp_WD (b : Nat) : sWD (sVp σ w v) b = sWv σ w b := sVp_WDf 41 b
end ZVP
