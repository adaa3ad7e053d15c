section ZQ4
/-! what FLEXING ends with -/
theorem fxFac_rng {n : Nat} {gr : Bool} {gw sk bs : Nat → Int32} (hg : ∀ j, j < n → 0 ≤ (gw j).toInt ∧ (gw j).toInt ≤ 9) (hk : ∀ j, j < n → sk j = 1) (hb : ∀ j, j < n → 0 ≤ (bs j).toInt ∧ (bs j).toInt ≤ 10000) : ∀ j, j < n → (0 ≤ (fxFac gr gw sk bs j).toInt ∧ (fxFac gr gw sk bs j).toInt ≤ 90000) ∧ fxFac gr gw sk bs j = if gr = true then gw j else bs j := fun j hj => by
  have q1 := hg j hj
  have q2 := hb j hj
  have e : fxFac gr gw sk bs j = if gr = true then gw j else bs j := by
    unfold fxFac
    rw [hk j hj, Int32.one_mul]
  rw [e]
  refine ⟨?_, rfl⟩
  by_cases c : gr = true
  · rw [if_pos c]
    omega
  · rw [if_neg c]
    omega
theorem fx_fin {n : Nat} {room : Int32} {bs lo hi gw sk : Nat → Int32} {gr : Bool} (hgr : fxGr n room bs lo hi = gr) (hn : n ≤ 40) (hroom : -1000000 ≤ room.toInt ∧ room.toInt ≤ 1000000)
    (hb : ∀ j, j < n → 0 ≤ (bs j).toInt ∧ (bs j).toInt ≤ 10000) (hl : ∀ j, j < n → 0 ≤ (lo j).toInt ∧ (lo j).toInt ≤ 1000) (hh : ∀ j, j < n → 0 ≤ (hi j).toInt ∧ (hi j).toInt ≤ 10000) (hg : ∀ j, j < n → 0 ≤ (gw j).toInt ∧ (gw j).toInt ≤ 9) (hk : ∀ j, j < n → sk j = 1) :
    (∀ j, j < n → (0 ≤ (fxSz n room bs lo hi gw sk j).toInt ∧ (fxSz n room bs lo hi gw sk j).toInt ≤ 10000) ∧ sg gr (zlim (bs j) (lo j) (hi j)).toInt ≤ sg gr (fxSz n room bs lo hi gw sk j).toInt ∧ zlim (fxSz n room bs lo hi gw sk j) (lo j) (hi j) = fxSz n room bs lo hi gw sk j) ∧
    zsumZ (fun j => sg gr (fxSz n room bs lo hi gw sk j).toInt) n ≤ sg gr room.toInt ∧
    (zsumZ (fun j => sg gr (fxSz n room bs lo hi gw sk j).toInt) n < sg gr room.toInt → ∀ j, j < n → ((if gr = true then gw j else bs j) = 0 ∨ sg gr (zlim (bs j) (lo j) (hi j)).toInt < sg gr (bs j).toInt) ∨ sg gr (fxSz n room bs lo hi gw sk j).toInt = qb gr lo hi j) := by
  have hfac := fxFac_rng (gr := gr) hg hk hb
  obtain ⟨fac, efac⟩ : ∃ fac, fac = fxFac gr gw sk bs := ⟨_, rfl⟩
  rw [← efac] at hfac
  have hS : ∀ j, j < n → -20000 ≤ (fxStart bs lo hi j).toInt ∧ (fxStart bs lo hi j).toInt ≤ 20000 := fun j hj => by
    have q := zlim_rng (x := bs j) (hl j hj) (hh j hj)
    unfold fxStart
    omega
  have hst : sg gr (zsum (fxStart bs lo hi) n).toInt ≤ sg gr room.toInt := by
    have a := zi_lt (zsum (fxStart bs lo hi) n) room
    unfold fxGr at hgr
    cases gr with
    | true =>
      have q := a.mp (of_decide_eq_true hgr)
      exact Int.le_of_lt q
    | false =>
      have q : ¬ (zsum (fxStart bs lo hi) n).toInt < room.toInt := fun z => of_decide_eq_false hgr (a.mpr z)
      show -(zsum (fxStart bs lo hi) n).toInt ≤ -room.toInt
      omega
  have H := fx_all (gr := gr) (fac := fac) hn hroom hb hl hh (fun j hj => (hfac j hj).1) hst n
  have hall := fxIt_all (n := n) (gr := gr) (room := room) (bs := bs) (lo := lo) (hi := hi) (fac := fac) (s := (fxStart bs lo hi, fxSt0 gr bs lo hi fac)) hn (Nat.le_refl n)
  have eF : fxSz n room bs lo hi gw sk = (fxIt n gr room bs lo hi fac (fxStart bs lo hi, fxSt0 gr bs lo hi fac) n).1 := by
    unfold fxSz
    rw [hgr, efac]
  have hrg : ∀ j, j < n → 0 ≤ (fxSz n room bs lo hi gw sk j).toInt ∧ (fxSz n room bs lo hi gw sk j).toInt ≤ 10000 := fun j hj => by
    rw [eF]
    have q : 0 ≤ ((fxStart bs lo hi, fxSt0 gr bs lo hi fac).1 j).toInt ∧ ((fxStart bs lo hi, fxSt0 gr bs lo hi fac).1 j).toInt ≤ 10000 := zlim_rng (x := bs j) (hl j hj) (hh j hj)
    exact fxIt_rng (n := n) (gr := gr) (room := room) (bs := bs) (lo := lo) (hi := hi) (fac := fac) (s := (fxStart bs lo hi, fxSt0 gr bs lo hi fac)) (j := j) q (hl j hj) (hh j hj) n
  obtain ⟨z, ez⟩ : ∃ z, z = (fxIt n gr room bs lo hi fac (fxStart bs lo hi, fxSt0 gr bs lo hi fac) n).1 := ⟨_, rfl⟩
  obtain ⟨st, est⟩ : ∃ st, st = (fxIt n gr room bs lo hi fac (fxStart bs lo hi, fxSt0 gr bs lo hi fac) n).2 := ⟨_, rfl⟩
  rw [eF] at hrg ⊢
  rw [← ez] at H hrg ⊢
  rw [← est] at H hall
  obtain ⟨h1, _, h3, h4⟩ := H
  have e3 : zsumZ (fun j => if st j = true then sg gr (z j).toInt else qcl (sg gr (bs j).toInt) (qa gr lo hi j) (qb gr lo hi j)) n = zsumZ (fun j => sg gr (z j).toInt) n := zsumZ_congr (fun j hj => if_pos (hall j hj))
  have e4 : zsumZ (fun j => if st j = true then sg gr (z j).toInt else qb gr lo hi j) n = zsumZ (fun j => sg gr (z j).toInt) n := zsumZ_congr (fun j hj => if_pos (hall j hj))
  rw [e3] at h3
  rw [e4] at h4
  refine ⟨fun j hj => ⟨hrg j hj, ?_, ?_⟩, h3, fun hlt j hj => ?_⟩
  · rw [zlim_sg]
    exact (h1 j hj (hall j hj)).1
  · have q := (h1 j hj (hall j hj)).2
    have q2 := zlim_sg gr (z j) lo hi j
    rw [zi_eq]
    have q3 : sg gr (sg gr (zlim (z j) (lo j) (hi j)).toInt) = sg gr (sg gr (z j).toInt) := by rw [q2, q]
    rw [sg_sg, sg_sg] at q3
    exact q3
  · rcases h4 with h4 | h4 | h4
    · rcases h4 j hj (hall j hj) with q | q
      · rw [(hfac j hj).2, ← zlim_sg] at q
        exact Or.inl q
      · exact Or.inr q
    · omega
    · omega
end ZQ4
