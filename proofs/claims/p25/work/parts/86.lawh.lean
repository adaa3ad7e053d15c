section ZLH1
/-! what the law's loops need -/
theorem zCl_95 {σ : zS} {I I' : Nat → Nat → Int32} {P : Nat → Nat → Option Nat} (o : ∀ q j, q < 95 → I' q j = I q j) (h : zCl σ I P) : zCl σ I' P := by
  have lt : ∀ b, sEx σ b = true → b < 40 := fun b hb => zTr_lt h.1 hb
  obtain ⟨⟨t1, t2, t3, t4, t5, t6, t7, t8, t9, t10⟩, ⟨r1, r2, r3⟩, ha⟩ := h
  refine ⟨⟨t1, fun b hb => (o b 0 (by omega)).trans (t2 b hb), fun b hb => (o b 2 (by omega)).trans (t3 b hb), t4, t5, t6, fun b k hb hk => (o _ k (by have := lt b hb; omega)).trans (t7 b k hb hk), (o 81 2 (by decide)).trans t8, (o 81 3 (by decide)).trans t9, (o 81 4 (by decide)).trans t10⟩, ⟨(o 0 12 (by decide)).trans r1, (o 0 13 (by decide)).trans r2, (o 0 17 (by decide)).trans r3⟩, fun q => ?_⟩
  obtain ⟨⟨l1, l2⟩, a⟩ := ha ((o 82 2 (by decide)).symm.trans q)
  refine ⟨⟨fun p hp => ?_, l2⟩, fun b hb => ?_⟩
  · obtain ⟨c1, c2, c3, c4⟩ := l1 p hp
    exact ⟨(o p 4 (by omega)).trans c1, (o p 5 (by omega)).trans c2, (o p 8 (by omega)).trans c3, c4⟩
  · have hb4 := (sSh_ex t1 hb).1
    obtain ⟨a1, a2, a3, a4, a5, a6, a7, a8⟩ := a b hb
    exact ⟨(o b 10 (by omega)).trans a1, (o b 11 (by omega)).trans a2, (o b 12 (by omega)).trans a3, (o b 13 (by omega)).trans a4, (o b 14 (by omega)).trans a5, (o b 15 (by omega)).trans a6, (o b 16 (by omega)).trans a7, (o b 17 (by omega)).trans a8⟩
theorem z_eqI {C : zC} {g : zG} {N nL cells slots : Nat} {I : Nat → Nat → Int32} {P : Nat → Nat → Option Nat} {J : Nat → Nat → Int64} {pc : Nat} {lv : List (Nat × Value)} {st : List Value} {x y : Int32} (e : x = y) (k : zJ C g N nL cells slots I P J pc lv (.int y :: st)) : zJ C g N nL cells slots I P J pc lv (.int x :: st) := by
  rw [e]
  exact k

/-- the law's rows and the parameters -/
abbrev tQ (W gp pd : Int32) (I : Nat → Nat → Int32) : tP := ((W, gp, pd, 0, 0), I 95, I 96, I 97, I 98, I 99)
def tAr (q : tP) (I : Nat → Nat → Int32) : Prop := ∀ j, I 95 j = tLo q j ∧ I 96 j = tHi q j ∧ I 97 j = tM q j ∧ I 98 j = tB q j ∧ I 99 j = tGw q j
theorem tAr.k {q : tP} {I I' : Nat → Nat → Int32} {P P' : Nat → Nat → Option Nat} {J J' : Nat → Nat → Int64} (h : tAr q I) (hk : zKp I P J I' P' J') : tAr q I' := fun j => by
  rw [hk.2.1 95 j (by decide), hk.2.1 96 j (by decide), hk.2.1 97 j (by decide), hk.2.1 98 j (by decide), hk.2.1 99 j (by decide)]
  exact h j
def tM5 (I : Nat → Nat → Int32) (k : Nat) (a b c d e : Int32) : Nat → Nat → Int32 := z_u (z_u (z_u (z_u (z_u I 95 k a) 96 k b) 97 k c) 98 k d) 99 k e
theorem tM5_k (I : Nat → Nat → Int32) (k : Nat) (a b c d e : Int32) : tM5 I k a b c d e 95 k = a ∧ tM5 I k a b c d e 96 k = b ∧ tM5 I k a b c d e 97 k = c ∧ tM5 I k a b c d e 98 k = d ∧ tM5 I k a b c d e 99 k = e := by
  refine ⟨?_, ?_, ?_, ?_, ?_⟩
  · unfold tM5
    rw [z_u_a _ _ (by decide), z_u_a _ _ (by decide), z_u_a _ _ (by decide), z_u_a _ _ (by decide), z_u_s]
  · unfold tM5
    rw [z_u_a _ _ (by decide), z_u_a _ _ (by decide), z_u_a _ _ (by decide), z_u_s]
  · unfold tM5
    rw [z_u_a _ _ (by decide), z_u_a _ _ (by decide), z_u_s]
  · unfold tM5
    rw [z_u_a _ _ (by decide), z_u_s]
  · unfold tM5
    rw [z_u_s]
theorem tM5_o (I : Nat → Nat → Int32) {k j : Nat} (a b c d e : Int32) (h : j ≠ k) (x : Nat) : tM5 I k a b c d e x j = I x j := by
  unfold tM5
  rw [z_u_b _ _ h, z_u_b _ _ h, z_u_b _ _ h, z_u_b _ _ h, z_u_b _ _ h]
theorem tM5_lo (I : Nat → Nat → Int32) (k : Nat) (a b c d e : Int32) {x : Nat} (h : x < 95) (j : Nat) : tM5 I k a b c d e x j = I x j := by
  unfold tM5
  rw [z_u_a _ _ (by omega), z_u_a _ _ (by omega), z_u_a _ _ (by omega), z_u_a _ _ (by omega), z_u_a _ _ (by omega)]
/-- the five values of a box -/
def tV5 (a b c d e : Int32) : Prop := (0 ≤ a.toInt ∧ a.toInt < 150) ∧ (0 ≤ b.toInt ∧ b.toInt ≤ 10000) ∧ (0 ≤ c.toInt ∧ c.toInt < 15) ∧ (0 ≤ d.toInt ∧ d.toInt < 250) ∧ (0 ≤ e.toInt ∧ e.toInt ≤ 9)
theorem tL_step {m k : Nat} {W gp pd a b c d e : Int32} {σ σ6 : zS} {I I6 : Nat → Nat → Int32} (T : tT k 0 (tQ W gp pd I) σ) (O : tOk k (tQ W gp pd I)) (hI : ∀ x j, 95 ≤ x → I6 x j = tM5 I k a b c d e x j) (hV : tV5 a b c d e) (hσ : σ6 = sSet (sSet (sSet (sSet (sSet (sAdd σ 0) (k + 1) 12 a) (k + 1) 14 b) (k + 1) 6 c) (k + 1) 7 d) (k + 1) 8 e) (hw : sWF σ6) : tT (k + 1) 0 (tQ W gp pd I6) σ6 ∧ tOk (k + 1) (tQ W gp pd I6) ∧ tNd m (tQ W gp pd I6) (k + 1) = tNd m (tQ W gp pd I) k + (zlim d a b + 2 * c) := by
  have K := tM5_k I k a b c d e
  have e1 : tLo (tQ W gp pd I6) k = a := (hI 95 k (by decide)).trans K.1
  have e2 : tHi (tQ W gp pd I6) k = b := (hI 96 k (by decide)).trans K.2.1
  have e3 : tM (tQ W gp pd I6) k = c := (hI 97 k (by decide)).trans K.2.2.1
  have e4 : tB (tQ W gp pd I6) k = d := (hI 98 k (by decide)).trans K.2.2.2.1
  have e5 : tGw (tQ W gp pd I6) k = e := (hI 99 k (by decide)).trans K.2.2.2.2
  have o : ∀ x j, 95 ≤ x → j < k → I6 x j = I x j := fun x j hx hj => (hI x j hx).trans (tM5_o I a b c d e (by omega) x)
  have ha : ∀ j, j < k → tLo (tQ W gp pd I6) j = tLo (tQ W gp pd I) j ∧ tHi (tQ W gp pd I6) j = tHi (tQ W gp pd I) j ∧ tM (tQ W gp pd I6) j = tM (tQ W gp pd I) j ∧ tB (tQ W gp pd I6) j = tB (tQ W gp pd I) j ∧ tGw (tQ W gp pd I6) j = tGw (tQ W gp pd I) j := fun j hj => ⟨o 95 j (by decide) hj, o 96 j (by decide) hj, o 97 j (by decide) hj, o 98 j (by decide) hj, o 99 j (by decide) hj⟩
  refine ⟨tT_s T rfl ha (by rw [e1, e2, e3, e4, e5]; exact hσ) hw, ⟨O.1, O.2.1, O.2.2.1, fun j hj => ?_⟩, ?_⟩
  · by_cases c9 : j = k
    · subst c9
      rw [e1, e2, e3, e4, e5]
      exact hV
    · have a := ha j (by omega)
      rw [a.1, a.2.1, a.2.2.1, a.2.2.2.1, a.2.2.2.2]
      exact O.2.2.2 j (by omega)
  · show tNd m (tQ W gp pd I6) k + (zlim (tB (tQ W gp pd I6) k) (tLo (tQ W gp pd I6) k) (tHi (tQ W gp pd I6) k) + 2 * tM (tQ W gp pd I6) k) = _
    rw [e1, e2, e3, e4, tNd_congr (q := tQ W gp pd I) (q' := tQ W gp pd I6) rfl ha]
theorem z7_rng {k : Nat} (hk : k < 6) {c : Int32} (hc : 0 ≤ c.toInt ∧ c.toInt ≤ 12) : 0 ≤ (7 * nI k + c).toInt ∧ (7 * nI k + c).toInt ≤ 100 := by
  have e1 : (nI k).toInt = (k : Int) := nI_toInt (by omega)
  have e7 : (7 : Int32).toInt = 7 := rfl
  have m1 : (7 * nI k).toInt = 7 * (k : Int) := by
    rw [Int32.toInt_mul, e7, e1]
    apply Int.bmod_eq_of_le <;> omega
  have m2 : (7 * nI k + c).toInt = 7 * (k : Int) + c.toInt := by
    rw [Int32.toInt_add, m1]
    apply Int.bmod_eq_of_le <;> omega
  omega
theorem z1_rng {v : Int32} (h0 : 0 ≤ v.toInt) (h1 : v.toInt < 9) : 0 ≤ (1 + v).toInt ∧ (1 + v).toInt ≤ 9 := by
  have e : (1 : Int32).toInt = 1 := rfl
  have m : (1 + v).toInt = 1 + v.toInt := by
    rw [Int32.toInt_add, e]
    apply Int.bmod_eq_of_le <;> omega
  omega
theorem zB_and (a b : Bool) : zB a &&& zB b = zB (a && b) := by cases a <;> cases b <;> rfl
theorem tA_st {k : Nat} {q : tP} {σ : zS} (T : tT k 0 q σ) (j : Nat) : sSt (sAdd σ 0) (k + 1) j = z_st 2 j := if_pos T.2.1.symm
theorem tA_ex {k : Nat} {q : tP} {σ : zS} (T : tT k 0 q σ) : sEx (sAdd σ 0) (k + 1) = true := if_pos T.2.1.symm
theorem sSt_ne {σ : zS} {b p c j : Nat} {v : Int32} (h : j ≠ p) : sSt (sSet σ b p v) c j = sSt σ c j := if_neg (fun z => h z.2)
theorem z_le2 {a b x : Int32} (h1 : a.toInt ≤ x.toInt) (h2 : x.toInt ≤ b.toInt) : a ≤ x ∧ x ≤ b := ⟨(zi_le _ _).mpr h1, (zi_le _ _).mpr h2⟩
end ZLH1
