section ZSG
theorem kSX0_limitWidth (lx : Launch) (g : zG) (N : Nat) (I : Nat → Nat → Int32) (P : Nat → Nat → Option Nat) (J : Nat → Nat → Int64) {σ : zS} (ht : zTr σ I P) (b : Nat) (he : sEx σ b = true) (x : Int32) : z_Ct lx yX0_limitWidth (zT yX0_limitWidth cX0_limitWidth 2 (Option.some FieldType.int)) ({ frames := 1, cells := 0, slots := 0, locals := 23 } : Room) g N I P J [.ref (g.1 b), .int x] (zMu (some (.int (sLimW σ b x))) I P J) 0 0 := by
  have k := kX0_limitWidth lx g N I P J b (zTr_lt ht he) x
  rw [zlimW_S ht he] at k
  exact k
theorem kSX0_limitHeight (lx : Launch) (g : zG) (N : Nat) (I : Nat → Nat → Int32) (P : Nat → Nat → Option Nat) (J : Nat → Nat → Int64) {σ : zS} (ht : zTr σ I P) (b : Nat) (he : sEx σ b = true) (x : Int32) : z_Ct lx yX0_limitHeight (zT yX0_limitHeight cX0_limitHeight 2 (Option.some FieldType.int)) ({ frames := 1, cells := 0, slots := 0, locals := 23 } : Room) g N I P J [.ref (g.1 b), .int x] (zMu (some (.int (sLimH σ b x))) I P J) 0 0 := by
  have k := kX0_limitHeight lx g N I P J b (zTr_lt ht he) x
  rw [zlimH_S ht he] at k
  exact k
theorem kSX0_fixedSize (lx : Launch) (g : zG) (N : Nat) (I : Nat → Nat → Int32) (P : Nat → Nat → Option Nat) (J : Nat → Nat → Int64) {σ : zS} (ht : zTr σ I P) (b : Nat) (he : sEx σ b = true) (k : Nat) (hk : k < 20) (x : Int32) (hx : x = nI k) : z_Ct lx yX0_fixedSize (zT yX0_fixedSize cX0_fixedSize 2 (Option.some FieldType.int)) ({ frames := 1, cells := 0, slots := 0, locals := 21 } : Room) g N I P J [.ref (g.1 b), .int x] (zMu (some (.int (sFix σ b k))) I P J) 0 0 := by
  have k := kX0_fixedSize lx g N I P J b k (zTr_lt ht he) hk x hx
  rw [zfix_S ht he hk] at k
  exact k
theorem kSX0_alignment (lx : Launch) (g : zG) (N : Nat) (I : Nat → Nat → Int32) (P : Nat → Nat → Option Nat) (J : Nat → Nat → Int64) {σ : zS} (ht : zTr σ I P) (b : Nat) (he : sEx σ b = true) (h0 : b ≠ 0) : z_Ct lx yX0_alignment (zT yX0_alignment cX0_alignment 1 (Option.some FieldType.int)) ({ frames := 1, cells := 0, slots := 0, locals := 21 } : Room) g N I P J [.ref (g.1 b)] (zMu (some (.int (sAl σ b))) I P J) 0 0 := by
  have k := kX0_alignment lx g N I P J b (zTr_lt ht he) (zTr_pb ht he)
  rw [zali_S ht he h0] at k
  exact k
theorem kSX0_innerWidth (lx : Launch) (g : zG) (N : Nat) (I : Nat → Nat → Int32) (P : Nat → Nat → Option Nat) (J : Nat → Nat → Int64) {σ : zS} (ht : zTr σ I P) (b : Nat) (he : sEx σ b = true) (W : Int32) (hw : I b 14 = W) : z_Ct lx yX0_innerWidth (zT yX0_innerWidth cX0_innerWidth 1 (Option.some FieldType.int)) ({ frames := 1, cells := 0, slots := 0, locals := 21 } : Room) g N I P J [.ref (g.1 b)] (zMu (some (.int (sIn W (sSt σ b 5)))) I P J) 0 0 := by
  have k := kX0_innerWidth lx g N I P J b (zTr_lt ht he)
  rw [zinW_S ht he hw] at k
  exact k
theorem kSX0_innerHeight (lx : Launch) (g : zG) (N : Nat) (I : Nat → Nat → Int32) (P : Nat → Nat → Option Nat) (J : Nat → Nat → Int64) {σ : zS} (ht : zTr σ I P) (b : Nat) (he : sEx σ b = true) (W : Int32) (hw : I b 15 = W) : z_Ct lx yX0_innerHeight (zT yX0_innerHeight cX0_innerHeight 1 (Option.some FieldType.int)) ({ frames := 1, cells := 0, slots := 0, locals := 21 } : Room) g N I P J [.ref (g.1 b)] (zMu (some (.int (sIn W (sSt σ b 5)))) I P J) 0 0 := by
  have k := kX0_innerHeight lx g N I P J b (zTr_lt ht he)
  rw [zinH_S ht he hw] at k
  exact k
theorem kSX0_textLines (lx : Launch) (g : zG) (N : Nat) (I : Nat → Nat → Int32) (P : Nat → Nat → Option Nat) (J : Nat → Nat → Int64) {σ : zS} (ht : zTr σ I P) (b : Nat) (he : sEx σ b = true) (W : Int32) (hw : I b 14 = W) : z_Ct lx yX0_textLines (zT yX0_textLines cX0_textLines 2 (Option.some FieldType.int)) ({ frames := 2, cells := 0, slots := 0, locals := 41 } : Room) g N I P J [.ref (g.1 b)] (zMu (some (.int (ztl (sSt σ b 19) (sIn W (sSt σ b 5))))) I P J) 0 0 := by
  have k := kX0_textLines lx g N I P J b (zTr_lt ht he)
  rw [zinW_S ht he hw, zTr_st ht he (by decide)] at k
  exact k
theorem kSX1_baseOf (lx : Launch) (g : zG) (N : Nat) (I : Nat → Nat → Int32) (P : Nat → Nat → Option Nat) (J : Nat → Nat → Int64) {σ : zS} (ht : zTr σ I P) (b : Nat) (he : sEx σ b = true) (wd : Bool) (nat : Nat → Int32) (hn : I b (if wd = true then 10 else 11) = nat b) : z_Ct lx yX1_baseOf (zT yX1_baseOf cX1_baseOf 2 (Option.some FieldType.int)) ({ frames := 1, cells := 0, slots := 0, locals := 21 } : Room) g N I P J [.ref (g.1 b), .int (zB wd)] (zMu (some (.int (sB σ nat b))) I P J) 0 0 := by
  have k := kX1_baseOf lx g N I P J b (zTr_lt ht he) wd
  rw [show zbase I b wd = sB σ nat b by rw [zbase_S ht he]; unfold sB; show (if _ then I b (if wd = true then 10 else 11) else _) = _; rw [hn]] at k
  exact k
end ZSG
