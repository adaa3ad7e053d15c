section ZQ3
theorem fxDev_int {lo hi P : Nat → Int32} {j : Nat} (hp : -20000000 ≤ (P j).toInt ∧ (P j).toInt ≤ 20000000) (hl : 0 ≤ (lo j).toInt ∧ (lo j).toInt ≤ 1000) (hh : 0 ≤ (hi j).toInt ∧ (hi j).toInt ≤ 10000) : (fxDev lo hi P j).toInt = (zlim (P j) (lo j) (hi j)).toInt - (P j).toInt := by
  have q := zlim_rng (x := P j) hl hh
  unfold fxDev
  rw [Int32.toInt_sub]
  apply Int.bmod_eq_of_le <;> omega
theorem fxP_int {n j : Nat} {gr : Bool} {bs fac : Nat → Int32} {st : Nat → Bool} {M : Int64} (hn : n ≤ 40) (hj : j < n) (hb : 0 ≤ (bs j).toInt ∧ (bs j).toInt ≤ 10000) (hf : ∀ j, j < n → 0 ≤ (fac j).toInt ∧ (fac j).toInt ≤ 90000) (bM : 0 ≤ M.toInt ∧ M.toInt ≤ 10000000) (hA : 0 < qO fac st n) : sg gr (fxP gr M (fxOpen fac st n) bs fac st j).toInt = sg gr (bs j).toInt + (M.toInt * qO fac st (j + 1) / qO fac st n - M.toInt * qO fac st j / qO fac st n) ∧ 0 ≤ M.toInt * qO fac st (j + 1) / qO fac st n - M.toInt * qO fac st j / qO fac st n ∧ (-20000000 ≤ (fxP gr M (fxOpen fac st n) bs fac st j).toInt ∧ (fxP gr M (fxOpen fac st n) bs fac st j).toInt ≤ 20000000) := by
  obtain ⟨e1, e2, e3⟩ := fxPart_int (n := n) (j := j) (fac := fac) (st := st) (amt := M) hn hj hf bM hA
  generalize hw : M.toInt * qO fac st (j + 1) / qO fac st n - M.toInt * qO fac st j / qO fac st n = w at e1 e2 e3 ⊢
  cases gr with
  | true =>
    have e4 : (fxP true M (fxOpen fac st n) bs fac st j).toInt = (bs j).toInt + w := by
      show (bs j + fxPart M (fxOpen fac st n) fac st j).toInt = _
      rw [Int32.toInt_add, e1]
      apply Int.bmod_eq_of_le <;> omega
    refine ⟨e4, e2, ?_⟩
    rw [e4]
    omega
  | false =>
    have e5 : (-fxPart M (fxOpen fac st n) fac st j).toInt = -w := by
      rw [Int32.toInt_neg, e1]
      apply Int.bmod_eq_of_le <;> omega
    have e4 : (fxP false M (fxOpen fac st n) bs fac st j).toInt = (bs j).toInt - w := by
      show (bs j + -fxPart M (fxOpen fac st n) fac st j).toInt = _
      rw [Int32.toInt_add, e5]
      apply Int.bmod_eq_of_le <;> omega
    refine ⟨?_, e2, ?_⟩
    · show -(fxP false M (fxOpen fac st n) bs fac st j).toInt = -(bs j).toInt + w
      rw [e4]
      omega
    · rw [e4]
      omega
theorem qO_pos {n : Nat} {fac : Nat → Int32} {st : Nat → Bool} (hf : ∀ j, j < n → 0 ≤ (fac j).toInt ∧ (fac j).toInt ≤ 90000) (hz : ∀ j, j < n → st j = false → fac j ≠ 0) (hu : ∃ j, j < n ∧ st j = false) : 0 < qO fac st n := by
  obtain ⟨k, hk, e⟩ := hu
  refine zsumZ_gt (fun j hj => ?_) hk ?_
  · have q := (hf j hj).1
    by_cases c : st j = true
    · rw [if_pos c]
      exact Int.le_refl _
    · rw [if_neg c]
      exact q
  · have q1 := (hf k hk).1
    have q2 := hz k hk e
    have q3 : ¬ (fac k).toInt = (0 : Int32).toInt := fun z => q2 ((zi_eq _ _).mpr z)
    have z0 : (0 : Int32).toInt = 0 := rfl
    rw [if_neg (by rw [e]; decide)]
    omega
theorem fxRest_int {n : Nat} {gr : Bool} {room : Int32} {bs sz : Nat → Int32} {st : Nat → Bool} (hn : n ≤ 40) (hroom : -1000000 ≤ room.toInt ∧ room.toInt ≤ 1000000) (hb : ∀ j, j < n → 0 ≤ (bs j).toInt ∧ (bs j).toInt ≤ 10000) (hs : ∀ j, j < n → 0 ≤ (sz j).toInt ∧ (sz j).toInt ≤ 10000) : sg gr (fxRest room bs sz st n).toInt = sg gr room.toInt - zsumZ (fun j => if st j = true then sg gr (sz j).toInt else sg gr (bs j).toInt) n ∧ (fxRest room bs sz st n).toInt ≤ 10000000 ∧ -10000000 ≤ (fxRest room bs sz st n).toInt := by
  have er0 := zfsub_int (r := room) (by omega) (f := fun j => if st j = true then sz j else bs j) (n := n) (by omega) (fun j hj => by
    have q1 := hs j hj
    have q2 := hb j hj
    by_cases e : st j = true
    · simp only [if_pos e]
      omega
    · simp only [if_neg e]
      omega)
  have e0 : fxRest room bs sz st n = zfsub room (fun j => if st j = true then sz j else bs j) n := rfl
  rw [e0]
  refine ⟨?_, ?_⟩
  · rw [er0.1, sg_sub, ← sg_sum, zsumZ_congr (g := fun j => if st j = true then sg gr (sz j).toInt else sg gr (bs j).toInt) (fun j _ => by
      by_cases e : st j = true
      · simp only [if_pos e]
      · simp only [if_neg e])]
  · rw [er0.1]
    omega
theorem fxRound_1 {n : Nat} {gr : Bool} {room : Int32} {bs lo hi fac sz : Nat → Int32} {st : Nat → Bool} {P : Nat → Int32} (hP : P = fxP gr (fxAmt gr (fxRest room bs sz st n)).toInt64 (fxOpen fac st n) bs fac st) (j : Nat) : (fxRound n gr room bs lo hi fac (sz, st)).1 j = (if st j = false ∧ fxFix (fxSum (fxDev lo hi P) st n) (fxDev lo hi P j) = true then P j + fxDev lo hi P j else sz j) ∧ (fxRound n gr room bs lo hi fac (sz, st)).2 j = (st j || fxFix (fxSum (fxDev lo hi P) st n) (fxDev lo hi P j)) := by
  subst hP
  exact ⟨rfl, rfl⟩
theorem fxSum_int {n : Nat} {gr : Bool} {lo hi P : Nat → Int32} {st : Nat → Bool} (hn : n ≤ 40) : sg gr (fxSum (fxDev lo hi P) st n).toInt = zsumZ (fun j => if st j = true then 0 else sg gr (fxDev lo hi P j).toInt) n := by
  have q := zsumL_int (f := fun j => if st j = true then (0 : Int64) else (fxDev lo hi P j).toInt64) (n := n) (by omega) (fun j _ => zl_bd2 (st j) _)
  have e0 : fxSum (fxDev lo hi P) st n = zsumL (fun j => if st j = true then (0 : Int64) else (fxDev lo hi P j).toInt64) n := rfl
  rw [e0, q, ← sg_sum]
  refine zsumZ_congr (fun j _ => ?_)
  by_cases c : st j = true
  · rw [if_pos c, if_pos c]
    rcases sg_rng gr (0 : Int64).toInt with z | z
    · rw [z]; rfl
    · rw [z]; rfl
  · rw [if_neg c, if_neg c, zl_toInt]
theorem fxTot_int {n : Nat} {gr : Bool} {M : Int64} {bs sz fac P : Nat → Int32} {st : Nat → Bool} (hf : ∀ j, j < n → 0 ≤ (fac j).toInt ∧ (fac j).toInt ≤ 90000) (hA : 0 < qO fac st n) (hP : ∀ j, j < n → sg gr (P j).toInt = sg gr (bs j).toInt + (M.toInt * qO fac st (j + 1) / qO fac st n - M.toInt * qO fac st j / qO fac st n)) : zsumZ (fun j => if st j = true then sg gr (sz j).toInt else sg gr (P j).toInt) n = zsumZ (fun j => if st j = true then sg gr (sz j).toInt else sg gr (bs j).toInt) n + M.toInt := by
  have e1 := zsumZ_add (n := n) (f := fun j => if st j = true then sg gr (sz j).toInt else sg gr (bs j).toInt) (g := fun j => M.toInt * qO fac st (j + 1) / qO fac st n - M.toInt * qO fac st j / qO fac st n) (h := fun j => if st j = true then sg gr (sz j).toInt else sg gr (P j).toInt) (fun j hj => by
    by_cases c : st j = true
    · simp only [if_pos c]
      rw [(qO_s (hf j hj).1).2 c]
      omega
    · simp only [if_neg c]
      exact hP j hj)
  have e2 := zsumZ_tel (fun j => M.toInt * qO fac st j / qO fac st n) n
  have e3 : M.toInt * qO fac st n / qO fac st n = M.toInt := Int.mul_ediv_cancel _ (by omega)
  have e4 : M.toInt * qO fac st 0 / qO fac st n = 0 := by
    have e6 : qO fac st 0 = 0 := rfl
    rw [e6, Int.mul_zero, Int.zero_ediv]
  have e5 : zsumZ (fun j => M.toInt * qO fac st (j + 1) / qO fac st n - M.toInt * qO fac st j / qO fac st n) n = M.toInt := by
    rw [e2, e3, e4, Int.sub_zero]
  rw [e1, e5]
/-- one round -/
theorem fx_step {n : Nat} {gr : Bool} {room : Int32} {bs lo hi fac : Nat → Int32} {sz : Nat → Int32} {st : Nat → Bool} {stk : Nat → Prop} (hn : n ≤ 40) (hroom : -1000000 ≤ room.toInt ∧ room.toInt ≤ 1000000)
    (hb : ∀ j, j < n → 0 ≤ (bs j).toInt ∧ (bs j).toInt ≤ 10000) (hl : ∀ j, j < n → 0 ≤ (lo j).toInt ∧ (lo j).toInt ≤ 1000) (hh : ∀ j, j < n → 0 ≤ (hi j).toInt ∧ (hi j).toInt ≤ 10000) (hf : ∀ j, j < n → 0 ≤ (fac j).toInt ∧ (fac j).toInt ≤ 90000)
    (hs : ∀ j, j < n → 0 ≤ (sz j).toInt ∧ (sz j).toInt ≤ 10000) (hz : ∀ j, j < n → st j = false → fac j ≠ 0)
    (h : qInv n (qa gr lo hi) (qb gr lo hi) (fun j => sg gr (bs j).toInt) stk (sg gr room.toInt) (fun j => sg gr (sz j).toInt) st) :
    qInv n (qa gr lo hi) (qb gr lo hi) (fun j => sg gr (bs j).toInt) stk (sg gr room.toInt) (fun j => sg gr ((fxRound n gr room bs lo hi fac (sz, st)).1 j).toInt) (fxRound n gr room bs lo hi fac (sz, st)).2 := by
  have eR0 := fxRest_int (gr := gr) (st := st) hn hroom hb hs
  obtain ⟨R, hR⟩ : ∃ R, R = fxRest room bs sz st n := ⟨_, rfl⟩
  have bR : R.toInt ≤ 10000000 ∧ -10000000 ≤ R.toInt := by
    rw [hR]
    exact eR0.2
  have sR : sg gr R.toInt = sg gr room.toInt - zsumZ (fun j => if st j = true then sg gr (sz j).toInt else sg gr (bs j).toInt) n := by
    rw [hR]
    exact eR0.1
  have hR0 : 0 ≤ sg gr R.toInt := by
    have q := zsumZ_le (n := n) (f := fun j => if st j = true then sg gr (sz j).toInt else sg gr (bs j).toInt) (g := fun j => if st j = true then sg gr (sz j).toInt else qcl (sg gr (bs j).toInt) (qa gr lo hi j) (qb gr lo hi j)) (fun j hj => by
      by_cases e : st j = true
      · rw [if_pos e, if_pos e]
        exact Int.le_refl _
      · rw [if_neg e, if_neg e]
        exact h.2.1 j hj (by
          cases c : st j with
          | true => exact absurd c e
          | false => rfl))
    have h3 : zsumZ (fun j => if st j = true then sg gr (sz j).toInt else qcl (sg gr (bs j).toInt) (qa gr lo hi j) (qb gr lo hi j)) n ≤ sg gr room.toInt := h.2.2.1
    rw [sR]
    omega
  have eA := fxAmt_int hR0 bR
  obtain ⟨M, hM⟩ : ∃ M, M = (fxAmt gr R).toInt64 := ⟨_, rfl⟩
  have eM : M.toInt = sg gr R.toInt := by rw [hM, zl_toInt, eA]
  have bM : 0 ≤ M.toInt ∧ M.toInt ≤ 10000000 := by
    rw [eM]
    rcases sg_rng gr R.toInt with q | q
    · rw [q] at hR0 ⊢
      omega
    · rw [q] at hR0 ⊢
      omega
  obtain ⟨P, hP⟩ : ∃ P, P = fxP gr M (fxOpen fac st n) bs fac st := ⟨_, rfl⟩
  obtain ⟨sm, hsm⟩ : ∃ sm, sm = fxSum (fxDev lo hi P) st n := ⟨_, rfl⟩
  have r0 := fun j => fxRound_1 (n := n) (gr := gr) (room := room) (bs := bs) (lo := lo) (hi := hi) (fac := fac) (sz := sz) (st := st) (P := P) (by rw [hP, hM, hR]) j
  rw [← hsm] at r0
  rcases Classical.em (∃ j, j < n ∧ st j = false) with hu | hu
  · have hA := qO_pos hf hz hu
    have pj : ∀ j, j < n → sg gr (P j).toInt = sg gr (bs j).toInt + (M.toInt * qO fac st (j + 1) / qO fac st n - M.toInt * qO fac st j / qO fac st n) ∧ 0 ≤ M.toInt * qO fac st (j + 1) / qO fac st n - M.toInt * qO fac st j / qO fac st n ∧ (-20000000 ≤ (P j).toInt ∧ (P j).toInt ≤ 20000000) := fun j hj => by
      rw [hP]
      exact fxP_int hn hj (hb j hj) hf bM hA
    have ed : ∀ j, j < n → sg gr (fxDev lo hi P j).toInt = qcl (sg gr (P j).toInt) (qa gr lo hi j) (qb gr lo hi j) - sg gr (P j).toInt := fun j hj => by
      rw [fxDev_int (pj j hj).2.2 (hl j hj) (hh j hj), sg_sub, zlim_sg]
    have es : sg gr sm.toInt = zsumZ (fun j => if st j = true then 0 else sg gr (fxDev lo hi P j).toInt) n := by
      rw [hsm]
      exact fxSum_int hn
    have et := fxTot_int (gr := gr) (M := M) (bs := bs) (sz := sz) (P := P) hf hA (fun j hj => (pj j hj).1)
    refine q_round (p := fun j => sg gr (P j).toInt) (d := fun j => sg gr (fxDev lo hi P j).toInt) (sm := sg gr sm.toInt) (fun j _ => qab gr lo hi j) ed es (fun j hj => ?_) (fun j hj => ?_) (fun j hj _ => ?_) (fun _ => ?_) h
    · have e1 : P j + fxDev lo hi P j = zlim (P j) (lo j) (hi j) := by
        unfold fxDev
        rw [Int32.add_comm, Int32.sub_add_cancel]
      rw [(r0 j).1, e1, qfx_sg gr]
      by_cases c : st j = false ∧ qfx (sg gr sm.toInt) (sg gr (fxDev lo hi P j).toInt) = true
      · rw [if_pos c, if_pos c, zlim_sg]
      · rw [if_neg c, if_neg c]
    · rw [(r0 j).2, qfx_sg gr]
    · have q := pj j hj
      omega
    · rw [et, eM, sR]
      omega
  · have all0 : ∀ j, j < n → st j = true := fun j hj => by
      cases es : st j with
      | true => rfl
      | false => exact absurd ⟨j, hj, es⟩ hu
    have k1 : ∀ j, j < n → (fxRound n gr room bs lo hi fac (sz, st)).2 j = true ∧ (fxRound n gr room bs lo hi fac (sz, st)).1 j = sz j := fun j hj => ⟨fxRound_st (s := (sz, st)) (all0 j hj), fxRound_sz (s := (sz, st)) (all0 j hj)⟩
    refine q_round (p := fun j => sg gr (bs j).toInt) (d := fun j => qcl (sg gr (bs j).toInt) (qa gr lo hi j) (qb gr lo hi j) - sg gr (bs j).toInt) (sm := zsumZ (fun j => if st j = true then 0 else (fun j => qcl (sg gr (bs j).toInt) (qa gr lo hi j) (qb gr lo hi j) - sg gr (bs j).toInt) j) n) (fun j _ => qab gr lo hi j) (fun _ _ => rfl) rfl (fun j hj => ?_) (fun j hj => ?_) (fun j hj e => ?_) (fun q => absurd q hu) h
    · rw [(k1 j hj).2, if_neg (fun q => by
        have e := q.1
        rw [all0 j hj] at e
        cases e)]
    · rw [(k1 j hj).1, all0 j hj]
      rfl
    · rw [all0 j hj] at e
      cases e
/-- all rounds -/
theorem fx_all {n : Nat} {gr : Bool} {room : Int32} {bs lo hi fac : Nat → Int32} (hn : n ≤ 40) (hroom : -1000000 ≤ room.toInt ∧ room.toInt ≤ 1000000)
    (hb : ∀ j, j < n → 0 ≤ (bs j).toInt ∧ (bs j).toInt ≤ 10000) (hl : ∀ j, j < n → 0 ≤ (lo j).toInt ∧ (lo j).toInt ≤ 1000) (hh : ∀ j, j < n → 0 ≤ (hi j).toInt ∧ (hi j).toInt ≤ 10000) (hf : ∀ j, j < n → 0 ≤ (fac j).toInt ∧ (fac j).toInt ≤ 90000)
    (hg : sg gr (zsum (fxStart bs lo hi) n).toInt ≤ sg gr room.toInt) : ∀ k, qInv n (qa gr lo hi) (qb gr lo hi) (fun j => sg gr (bs j).toInt) (fun j => fac j = 0 ∨ qcl (sg gr (bs j).toInt) (qa gr lo hi j) (qb gr lo hi j) < sg gr (bs j).toInt) (sg gr room.toInt) (fun j => sg gr ((fxIt n gr room bs lo hi fac (fxStart bs lo hi, fxSt0 gr bs lo hi fac) k).1 j).toInt) (fxIt n gr room bs lo hi fac (fxStart bs lo hi, fxSt0 gr bs lo hi fac) k).2
  | 0 => by
    have e0 : ∀ j, sg gr (fxStart bs lo hi j).toInt = qcl (sg gr (bs j).toInt) (qa gr lo hi j) (qb gr lo hi j) := fun j => zlim_sg gr (bs j) lo hi j
    have e1 : ∀ j, fxSt0 gr bs lo hi fac j = decide (fac j = 0 ∨ qcl (sg gr (bs j).toInt) (qa gr lo hi j) (qb gr lo hi j) < sg gr (bs j).toInt) := fun j => by
      rw [← e0 j]
      unfold fxSt0
      rw [Bool.decide_or]
      congr 1
      cases gr with
      | true =>
        show decide (fxStart bs lo hi j < bs j) = _
        exact decide_eq_decide.mpr (zi_lt _ _)
      | false =>
        show decide (bs j < fxStart bs lo hi j) = decide (-(fxStart bs lo hi j).toInt < -(bs j).toInt)
        exact decide_eq_decide.mpr ((zi_lt _ _).trans (by omega))
    refine ⟨fun j hj _ => ?_, fun j hj e => ?_, ?_, Or.inl (fun j hj e => ?_)⟩
    · show qcl _ _ _ ≤ sg gr (fxStart bs lo hi j).toInt ∧ qcl (sg gr (fxStart bs lo hi j).toInt) _ _ = sg gr (fxStart bs lo hi j).toInt
      rw [e0 j]
      exact ⟨Int.le_refl _, qcl_id (qab gr lo hi j)⟩
    · have e' : fxSt0 gr bs lo hi fac j = false := e
      rw [e1 j] at e'
      have q := of_decide_eq_false e'
      exact Int.not_lt.mp (fun z => q (Or.inr z))
    · have q := zsum_int (f := fxStart bs lo hi) (n := n) (by omega) (fun j hj => by
        have := zlim_rng (x := bs j) (hl j hj) (hh j hj)
        show -20000 ≤ (zlim (bs j) (lo j) (hi j)).toInt ∧ (zlim (bs j) (lo j) (hi j)).toInt ≤ 20000
        omega)
      rw [q.1, ← sg_sum] at hg
      rw [zsumZ_congr (g := fun j => sg gr (fxStart bs lo hi j).toInt) (fun j _ => by
        show (if _ = true then sg gr (fxStart bs lo hi j).toInt else qcl _ _ _) = _
        rw [← e0 j]
        split <;> rfl)]
      exact hg
    · have e' : fxSt0 gr bs lo hi fac j = true := e
      rw [e1 j] at e'
      exact Or.inl (of_decide_eq_true e')
  | k + 1 => by
    have ih := fx_all (gr := gr) (fac := fac) hn hroom hb hl hh hf hg k
    refine fx_step (sz := (fxIt n gr room bs lo hi fac (fxStart bs lo hi, fxSt0 gr bs lo hi fac) k).1) (st := (fxIt n gr room bs lo hi fac (fxStart bs lo hi, fxSt0 gr bs lo hi fac) k).2) hn hroom hb hl hh hf (fun j hj => ?_) (fun j hj e => ?_) ih
    · have q : 0 ≤ ((fxStart bs lo hi, fxSt0 gr bs lo hi fac).1 j).toInt ∧ ((fxStart bs lo hi, fxSt0 gr bs lo hi fac).1 j).toInt ≤ 10000 := zlim_rng (x := bs j) (hl j hj) (hh j hj)
      exact fxIt_rng (n := n) (gr := gr) (room := room) (bs := bs) (lo := lo) (hi := hi) (fac := fac) (s := (fxStart bs lo hi, fxSt0 gr bs lo hi fac)) (j := j) q (hl j hj) (hh j hj) k
    · refine fxIt_nz (n := n) (gr := gr) (room := room) (bs := bs) (lo := lo) (hi := hi) (fac := fac) (s := (fxStart bs lo hi, fxSt0 gr bs lo hi fac)) (fun i _ q z => ?_) k j hj e
      have q' : (decide (fac i = 0) || _) = false := q
      rw [decide_eq_true z] at q'
      cases q'
end ZQ3
