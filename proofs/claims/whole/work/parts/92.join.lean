section ZJN
/-! CLASS AND MODEL SIDE BY SIDE: what the law's loop keeps -/
theorem zMd_c {σ : zS} {I I' : Nat → Nat → Int32} (e : ∀ j, I' 96 j = I 96 j) (h : zMd σ I) : zMd σ I' := by
  obtain ⟨h1, h2, h3, h4, h5, h6⟩ := h
  exact ⟨h1, (e _).trans h2, (e _).trans h3, (e _).trans h4, fun b hb => (e _).trans (h5 b hb), fun b k hb hk => (e _).trans (h6 b k hb hk)⟩
/-- the class's state, when the model has worked -/
theorem zCl_m {σ : zS} {I I' : Nat → Nat → Int32} {P P' : Nat → Nat → Option Nat} {J J' : Nat → Nat → Int64} (hk : zKm I P J I' P' J') (h : zCl σ I P) : zCl σ I' P' := by
  obtain ⟨e, -, hI⟩ := hk
  rw [e]
  have lt : ∀ b, sEx σ b = true → b < 40 := fun b hb => zTr_lt h.1 hb
  have o : ∀ q j, q < 95 → I' q j = I q j := fun q j hq => hI q j (by omega)
  obtain ⟨⟨t1, t2, t3, t4, t5, t6, t7, t8, t9, t10⟩, ⟨r1, r2, r3⟩, ha⟩ := h
  refine ⟨⟨t1, fun b hb => (o b 0 (by omega)).trans (t2 b hb), fun b hb => (o b 2 (by omega)).trans (t3 b hb), t4, t5, t6, fun b k hb hk => (o _ k (by have := lt b hb; omega)).trans (t7 b k hb hk), (o 81 2 (by decide)).trans t8, (o 81 3 (by decide)).trans t9, (o 81 4 (by decide)).trans t10⟩, ⟨(o 0 12 (by decide)).trans r1, (o 0 13 (by decide)).trans r2, (o 0 17 (by decide)).trans r3⟩, fun q => ?_⟩
  obtain ⟨⟨l1, l2⟩, a⟩ := ha ((o 82 2 (by decide)).symm.trans q)
  refine ⟨⟨fun p hp => ?_, l2⟩, fun b hb => ?_⟩
  · obtain ⟨c1, c2, c3, c4⟩ := l1 p hp
    exact ⟨(o p 4 (by omega)).trans c1, (o p 5 (by omega)).trans c2, (o p 8 (by omega)).trans c3, c4⟩
  · have hb4 := (sSh_ex t1 hb).1
    obtain ⟨a1, a2, a3, a4, a5, a6, a7, a8⟩ := a b hb
    exact ⟨(o b 10 (by omega)).trans a1, (o b 11 (by omega)).trans a2, (o b 12 (by omega)).trans a3, (o b 13 (by omega)).trans a4, (o b 14 (by omega)).trans a5, (o b 15 (by omega)).trans a6, (o b 16 (by omega)).trans a7, (o b 17 (by omega)).trans a8⟩
/-- what a step that saves nothing leaves -/
def zKL (I : Nat → Nat → Int32) (P : Nat → Nat → Option Nat) (I' : Nat → Nat → Int32) (P' : Nat → Nat → Option Nat) : Prop := (∀ q j, 111 ≤ q → I' q j = I q j) ∧ (∀ j, I' 97 j = I 97 j ∧ I' 98 j = I 98 j) ∧ ∀ t, P' 85 t = P 85 t
theorem zKL_of {I I1 I2 : Nat → Nat → Int32} {P P1 P2 : Nat → Nat → Option Nat} {J J1 K1 J2 : Nat → Nat → Int64} (h1 : zKp I P J I1 P1 J1) (h2 : zKm I1 P1 K1 I2 P2 J2) : zKL I P I2 P2 := by
  obtain ⟨-, a1, a2⟩ := h1
  obtain ⟨b1, -, b3⟩ := h2
  refine ⟨fun q j hq => (b3 q j (by omega)).trans (a1 q j (by omega)), fun j => ⟨(b3 97 j (by omega)).trans (a1 97 j (by decide)), (b3 98 j (by omega)).trans (a1 98 j (by decide))⟩, fun t => ?_⟩
  rw [b1]
  exact a2 85 t (by decide)
/-- the loop's invariant: the class's tree and the model's are the same; so are the saved ones -/
def zLI (N : Nat) (σ : zS) (τ : Nat → zS) (I : Nat → Nat → Int32) (P : Nat → Nat → Option Nat) : Prop := zCl σ I P ∧ zMd σ I ∧ (∃ c, N = 111 + 44 * c) ∧ (∀ t, t < 2 → (P 85 t = none ∧ I 98 t = 0) ∨ ∃ s, P 85 t = some s ∧ zsn s N ∧ zSn (τ t) I s ∧ I 98 t = 1 ∧ zMd (τ t) (fun _ j => I 97 (843 * t + j))) ∧ ∀ s, P 85 0 = some s → P 85 1 ≠ some s
theorem zLI_k {N : Nat} {σ σ' : zS} {τ : Nat → zS} {I I' : Nat → Nat → Int32} {P P' : Nat → Nat → Option Nat} (h : zLI N σ τ I P) (hk : zKL I P I' P') (hc : zCl σ' I' P') (hm : zMd σ' I') : zLI N σ' τ I' P' := by
  obtain ⟨-, -, hN, hs, hd⟩ := h
  obtain ⟨k1, k2, k3⟩ := hk
  refine ⟨hc, hm, hN, fun t ht => ?_, fun s => by rw [k3, k3]; exact hd s⟩
  rw [k3]
  rcases hs t ht with ⟨e1, e2⟩ | ⟨s, e1, e2, e3, e4, e5⟩
  · exact Or.inl ⟨e1, (k2 t).2.trans e2⟩
  · refine Or.inr ⟨s, e1, e2, zSn_fr e3 (fun q j hq _ => k1 q j (by have := e2.ge; omega)), (k2 t).2.trans e4, ?_⟩
    have e : (fun (_ : Nat) (j : Nat) => I' 97 (843 * t + j)) = fun _ j => I 97 (843 * t + j) := funext fun _ => funext fun j => (k2 _).1
    rw [e]
    exact e5
theorem zLI.md {N : Nat} {σ : zS} {τ : Nat → zS} {I I1 : Nat → Nat → Int32} {P P1 : Nat → Nat → Option Nat} {J J1 : Nat → Nat → Int64} (h : zLI N σ τ I P) (hk : zKp I P J I1 P1 J1) : zMd σ I1 := zMd_c (fun j => hk.2.1 96 j (by decide)) h.2.1
/-- what a step of the law owes: the same answer, and the loop's invariant -/
def zLq (N : Nat) (τ : Nat → zS) (v w : Option Value) (I2 : Nat → Nat → Int32) (P2 : Nat → Nat → Option Nat) (J2 : Nat → Nat → Int64) : Prop := ∃ c b : Int32, v = some (.int c) ∧ w = some (.int b) ∧ I2 95 3 = c ∧ (c = 0 → J2 110 0 = b.toInt64) ∧ ∃ σ', zLI N σ' τ I2 P2
section
variable {N : Nat} {σ : zS} {τ : Nat → zS} {I I1 I2 : Nat → Nat → Int32} {P P1 P2 : Nat → Nat → Option Nat} {J J1 J2 : Nat → Nat → Int64} {v w : Option Value}
/-- nothing thrown, on both sides -/
theorem zLq_0 (h : zLI N σ τ I P) {σ' : zS} {r b : Int32} {K1 : Nat → Nat → Int64} (hJ : J1 = z_u K1 110 0 r.toInt64) (hv : v = some (.int 0)) (hw : w = some (.int b)) (hrb : r = b) (hk : zKp I P J I1 P1 K1) (hkm : zKm I1 P1 J1 I2 P2 J2) (ht : I2 95 3 = 0) (hc : zCl σ' I1 P1) (hm : zMd σ' I2) : zLq N τ v w I2 P2 J2 := by
  refine ⟨0, b, hv, hw, ht, fun _ => ?_, σ', zLI_k h (zKL_of hk hkm) (zCl_m hkm hc) hm⟩
  rw [hkm.2.1 110 0 (by decide), hJ, z_u_s, hrb]
/-- the same thrown, on both sides -/
theorem zLq_x (h : zLI N σ τ I P) {c b : Int32} (h0 : c ≠ 0) (hv : v = some (.int c)) (hw : w = some (.int b)) (hk : zKp I P J I1 P1 J1) (hkm : zKm I1 P1 J1 I2 P2 J2) (ht : I2 95 3 = c) (hc : zCl σ I1 P1) (hm : zMd σ I2) : zLq N τ v w I2 P2 J2 :=
  ⟨c, b, hv, hw, ht, fun e => absurd e h0, σ, zLI_k h (zKL_of hk hkm) (zCl_m hkm hc) hm⟩
theorem zbx_sx {x : Int32} (h : zbx σ x = false) (hb : sBx σ x) : False := by
  rw [zbx_iff.mpr hb] at h
  cases h
theorem zk1 {a i k : Nat} (h : [a][i]? = some k) : i = 0 ∧ k = a := by
  rcases i with _ | i
  · cases h
    exact ⟨rfl, rfl⟩
  · cases h
theorem zk2 {a b i k : Nat} (h : [a, b][i]? = some k) : (i = 0 ∧ k = a) ∨ (i = 1 ∧ k = b) := by
  rcases i with _ | _ | i
  · cases h
    exact Or.inl ⟨rfl, rfl⟩
  · cases h
    exact Or.inr ⟨rfl, rfl⟩
  · cases h
theorem zk3 {a b c i k : Nat} (h : [a, b, c][i]? = some k) : (i = 0 ∧ k = a) ∨ (i = 1 ∧ k = b) ∨ (i = 2 ∧ k = c) := by
  rcases i with _ | _ | _ | i
  · cases h
    exact Or.inl ⟨rfl, rfl⟩
  · cases h
    exact Or.inr (Or.inl ⟨rfl, rfl⟩)
  · cases h
    exact Or.inr (Or.inr ⟨rfl, rfl⟩)
  · cases h
/-- the ten that ask for a box's layout -/
theorem zLq_get (h : zLI N σ τ I P) {x : Int32} {f : Nat → Int32} (hv : zLV [0, 1] (zGt σ x f I P J) (zXp σ I P J (fun E => zc0 σ x E ∨ zc1 σ x E)) v I1 P1 J1) (hw : (∃ z, w = some (.int z)) ∧ zGm σ x f I1 P1 J1 w I2 P2 J2) : zLq N τ v w I2 P2 J2 := by
  obtain ⟨⟨z, hz⟩, hm1, hm2, hkm⟩ := hw
  rcases hv with ⟨hv, r, K1, hJ, ⟨b, hx, hs, hr⟩, hc, hk⟩ | ⟨i, k, hik, hv, hcE, hc, hk⟩
  · have hb4 := (sSh_ex h.1.1.1 hs).1
    subst hx
    have hr2 : r = f b := by cases hr; rfl
    rcases hm1 with (⟨g1, -⟩ | ⟨b2, e2, hb2, -, hs2, -⟩) | ⟨b2, e2, hb2, -, hs2, hw2, ht⟩
    · exact (zbx_sx g1 ⟨b, rfl, hb4, (sSh_ex h.1.1.1 hs).2⟩).elim
    · have e : b = b2 := (nI_eq (by omega) (by omega)).mp e2
      rw [e, hs2] at hs
      cases hs
    · have e : b = b2 := (nI_eq (by omega) (by omega)).mp e2
      exact zLq_0 h hJ hv hw2 (by rw [hr2, e]) hk hkm ht hc hm2
  · rcases zk2 hik with ⟨rfl, rfl⟩ | ⟨rfl, rfl⟩
    · rcases hcE with ⟨-, hn⟩ | ⟨e1, -⟩
      · rcases hm1 with (⟨-, ht⟩ | ⟨b2, e2, hb2, he2, -⟩) | ⟨b2, e2, hb2, he2, -⟩
        · exact zLq_x h (c := 1) (by decide) hv hz hk hkm ht hc hm2
        · exact (hn ⟨b2, e2, hb2, he2⟩).elim
        · exact (hn ⟨b2, e2, hb2, he2⟩).elim
      · exact absurd e1 (by decide)
    · rcases hcE with ⟨e1, -⟩ | ⟨-, b, hx, hb4, he, hs⟩
      · exact absurd e1 (by decide)
      · subst hx
        rcases hm1 with (⟨g1, -⟩ | ⟨b2, e2, hb2, he2, hs2, ht⟩) | ⟨b2, e2, hb2, he2, hs2, -⟩
        · exact (zbx_sx g1 ⟨b, rfl, hb4, he⟩).elim
        · exact zLq_x h (c := 2) (by decide) hv hz hk hkm ht hc hm2
        · have e : b = b2 := (nI_eq (by omega) (by omega)).mp e2
          rw [e, hs2] at hs
          cases hs
theorem zb_eq {b c : Nat} (hb : b < 40) (hc : c < 40) (h : nI b = nI c) : b = c := (nI_eq (by omega) (by omega)).mp h
theorem zLq_add (h : zLI N σ τ I P) {x : Int32} (hv : zLV [0, 1] (fun v I' P' J' => (∃ b, x = nI b ∧ b < 40 ∧ sEx σ b = true ∧ sGv σ < 40 ∧ v = some (.int (nI (sGv σ))) ∧ zCl (sAdd σ b) I' P') ∧ zKp I P J I' P' J') (zXp σ I P J (fun E => zc0 σ x E ∨ (E = zEn 1 ∧ sBx σ x ∧ sGv σ = 40))) v I1 P1 J1) (hw : (∃ z, w = some (.int z)) ∧ ((zbx σ x = false ∧ I2 95 3 = 1 ∧ zMd σ I2) ∨ ((zbx σ x = true ∧ sGv σ = 40 ∧ I2 95 3 = 2 ∧ zMd σ I2) ∨ ∃ b, x = nI b ∧ b < 40 ∧ sEx σ b = true ∧ sGv σ < 40 ∧ w = some (.int (nI (sGv σ))) ∧ I2 95 3 = 0 ∧ zMd (sAdd σ b) I2)) ∧ zKm I1 P1 J1 I2 P2 J2) : zLq N τ v w I2 P2 J2 := by
  obtain ⟨⟨z, hz⟩, hm1, hkm⟩ := hw
  rcases hv with ⟨hv, r, K1, hJ, ⟨b, hx, hb4, he, hg, hr, hc⟩, hk⟩ | ⟨i, k, hik, hv, hcE, hc, hk⟩
  · subst hx
    rcases hm1 with ⟨g1, -⟩ | ⟨-, g2, -⟩ | ⟨b2, e2, hb2, -, -, hw2, ht, hm⟩
    · exact (zbx_sx g1 ⟨b, rfl, hb4, he⟩).elim
    · omega
    · have e := zb_eq hb4 hb2 e2
      subst e
      exact zLq_0 h hJ hv hw2 (by cases hr; rfl) hk hkm ht hc hm
  · rcases zk2 hik with ⟨rfl, rfl⟩ | ⟨rfl, rfl⟩
    · rcases hcE with ⟨-, hn⟩ | ⟨e1, -⟩
      · rcases hm1 with ⟨-, ht, hm⟩ | ⟨g1, -⟩ | ⟨b2, e2, hb2, he2, -⟩
        · exact zLq_x h (c := 1) (by decide) hv hz hk hkm ht hc hm
        · exact (hn (zbx_iff.mp g1)).elim
        · exact (hn ⟨b2, e2, hb2, he2⟩).elim
      · exact absurd e1 (by decide)
    · rcases hcE with ⟨e1, -⟩ | ⟨-, hb, hg⟩
      · exact absurd e1 (by decide)
      · rcases hm1 with ⟨g1, -⟩ | ⟨-, -, ht, hm⟩ | ⟨b2, e2, hb2, he2, g3, -⟩
        · exact (zbx_sx g1 hb).elim
        · exact zLq_x h (c := 2) (by decide) hv hz hk hkm ht hc hm
        · omega
theorem zLq_remove (h : zLI N σ τ I P) {x : Int32} (hv : zLV [0, 2] (fun v I' P' J' => (∃ b, x = nI b ∧ b < 40 ∧ sEx σ b = true ∧ b ≠ 0 ∧ v = some (.int (sCutC σ b 40)) ∧ zCl (sRem σ b) I' P') ∧ zKp I P J I' P' J') (zXp σ I P J (fun E => zc0 σ x E ∨ (E = zEn 2 ∧ x = 0))) v I1 P1 J1) (hw : (∃ z, w = some (.int z)) ∧ ((zbx σ x = false ∧ I2 95 3 = 1 ∧ zMd σ I2) ∨ ((zbx σ x = true ∧ x = 0 ∧ I2 95 3 = 2 ∧ zMd σ I2) ∨ ∃ b, x = nI b ∧ b < 40 ∧ sEx σ b = true ∧ b ≠ 0 ∧ w = some (.int (sCutC σ b 40)) ∧ I2 95 3 = 0 ∧ zMd (sRem σ b) I2)) ∧ zKm I1 P1 J1 I2 P2 J2) : zLq N τ v w I2 P2 J2 := by
  obtain ⟨⟨z, hz⟩, hm1, hkm⟩ := hw
  have z0 : (0 : Int32) = nI 0 := rfl
  rcases hv with ⟨hv, r, K1, hJ, ⟨b, hx, hb4, he, hg, hr, hc⟩, hk⟩ | ⟨i, k, hik, hv, hcE, hc, hk⟩
  · subst hx
    rcases hm1 with ⟨g1, -⟩ | ⟨-, g2, -⟩ | ⟨b2, e2, hb2, -, -, hw2, ht, hm⟩
    · exact (zbx_sx g1 ⟨b, rfl, hb4, he⟩).elim
    · exact (hg (zb_eq hb4 (by decide) (g2.trans z0))).elim
    · have e := zb_eq hb4 hb2 e2
      subst e
      exact zLq_0 h hJ hv hw2 (by cases hr; rfl) hk hkm ht hc hm
  · rcases zk2 hik with ⟨rfl, rfl⟩ | ⟨rfl, rfl⟩
    · rcases hcE with ⟨-, hn⟩ | ⟨e1, -⟩
      · rcases hm1 with ⟨-, ht, hm⟩ | ⟨g1, -⟩ | ⟨b2, e2, hb2, he2, -⟩
        · exact zLq_x h (c := 1) (by decide) hv hz hk hkm ht hc hm
        · exact (hn (zbx_iff.mp g1)).elim
        · exact (hn ⟨b2, e2, hb2, he2⟩).elim
      · exact absurd e1 (by decide)
    · rcases hcE with ⟨e1, -⟩ | ⟨-, hx⟩
      · exact absurd e1 (by decide)
      · rcases hm1 with ⟨g1, -⟩ | ⟨-, -, ht, hm⟩ | ⟨b2, e2, hb2, he2, g3, -⟩
        · exact (zbx_sx g1 ⟨0, hx.trans z0, by decide, h.1.1.1.1⟩).elim
        · exact zLq_x h (c := 2) (by decide) hv hz hk hkm ht hc hm
        · exact (g3 (zb_eq hb2 (by decide) (e2.symm.trans (hx.trans z0)))).elim
/-- parent, child -/
theorem zLq_pc (h : zLI N σ τ I P) {x : Int32} {f : Nat → Int32} (hv : zLV [0] (fun v I' P' J' => (∃ b, x = nI b ∧ b < 40 ∧ sEx σ b = true ∧ v = some (.int (f b))) ∧ zCl σ I' P' ∧ zKp I P J I' P' J') (zXp σ I P J (fun E => zc0 σ x E)) v I1 P1 J1) (hw : (∃ z, w = some (.int z)) ∧ ((zbx σ x = false ∧ I2 95 3 = 1) ∨ ∃ b, x = nI b ∧ b < 40 ∧ sEx σ b = true ∧ w = some (.int (f b)) ∧ I2 95 3 = 0) ∧ zMd σ I2 ∧ zKm I1 P1 J1 I2 P2 J2) : zLq N τ v w I2 P2 J2 := by
  obtain ⟨⟨z, hz⟩, hm1, hm, hkm⟩ := hw
  rcases hv with ⟨hv, r, K1, hJ, ⟨b, hx, hb4, he, hr⟩, hc, hk⟩ | ⟨i, k, hik, hv, hcE, hc, hk⟩
  · subst hx
    rcases hm1 with ⟨g1, -⟩ | ⟨b2, e2, hb2, -, hw2, ht⟩
    · exact (zbx_sx g1 ⟨b, rfl, hb4, he⟩).elim
    · have e := zb_eq hb4 hb2 e2
      subst e
      exact zLq_0 h hJ hv hw2 (by cases hr; rfl) hk hkm ht hc hm
  · obtain ⟨rfl, rfl⟩ := zk1 hik
    obtain ⟨-, hn⟩ := hcE
    rcases hm1 with ⟨-, ht⟩ | ⟨b2, e2, hb2, he2, -⟩
    · exact zLq_x h (c := 1) (by decide) hv hz hk hkm ht hc hm
    · exact (hn ⟨b2, e2, hb2, he2⟩).elim
theorem zLq_set (h : zLI N σ τ I P) {x q u : Int32} (hv : zLV [0, 2] (fun r I' P' J' => (∃ b k, x = nI b ∧ q = nI k ∧ b < 40 ∧ sEx σ b = true ∧ k < 20 ∧ (z_st 0 k ≤ u ∧ u ≤ z_st 1 k) ∧ r = some (.int (sSt σ b k)) ∧ zCl (sSet σ b k u) I' P') ∧ zKp I P J I' P' J') (zXp σ I P J (fun E => zc0 σ x E ∨ (E = zEn 2 ∧ sBx σ x ∧ ¬ sOk q u))) v I1 P1 J1) (hw : (∃ z, w = some (.int z)) ∧ ((zbx σ x = false ∧ I2 95 3 = 1 ∧ zMd σ I2) ∨ ((zbx σ x = true ∧ ¬ sOk q u ∧ I2 95 3 = 2 ∧ zMd σ I2) ∨ ∃ b k, x = nI b ∧ q = nI k ∧ b < 40 ∧ sEx σ b = true ∧ k < 20 ∧ (z_st 0 k ≤ u ∧ u ≤ z_st 1 k) ∧ w = some (.int (sSt σ b k)) ∧ I2 95 3 = 0 ∧ zMd (sSet σ b k u) I2)) ∧ zKm I1 P1 J1 I2 P2 J2) : zLq N τ v w I2 P2 J2 := by
  obtain ⟨⟨z, hz⟩, hm1, hkm⟩ := hw
  have ok : ∀ k, k < 20 → q = nI k → (z_st 0 k ≤ u ∧ u ≤ z_st 1 k) → sOk q u := fun k hk e hu => ⟨k, e, hk, hu⟩
  rcases hv with ⟨hv, r, K1, hJ, ⟨b, k, hx, hq, hb4, he, hk2, hu, hr, hc⟩, hk⟩ | ⟨i, k, hik, hv, hcE, hc, hk⟩
  · subst hx
    rcases hm1 with ⟨g1, -⟩ | ⟨-, g2, -⟩ | ⟨b2, k2, e2, q2, hb2, -, hk3, -, hw2, ht, hm⟩
    · exact (zbx_sx g1 ⟨b, rfl, hb4, he⟩).elim
    · exact (g2 (ok k hk2 hq hu)).elim
    · have e := zb_eq hb4 hb2 e2
      have e3 : k = k2 := zb_eq (by omega) (by omega) (hq.symm.trans q2)
      subst e
      subst e3
      exact zLq_0 h hJ hv hw2 (by cases hr; rfl) hk hkm ht hc hm
  · rcases zk2 hik with ⟨rfl, rfl⟩ | ⟨rfl, rfl⟩
    · rcases hcE with ⟨-, hn⟩ | ⟨e1, -⟩
      · rcases hm1 with ⟨-, ht, hm⟩ | ⟨g1, -⟩ | ⟨b2, k2, e2, q2, hb2, he2, -⟩
        · exact zLq_x h (c := 1) (by decide) hv hz hk hkm ht hc hm
        · exact (hn (zbx_iff.mp g1)).elim
        · exact (hn ⟨b2, e2, hb2, he2⟩).elim
      · exact absurd e1 (by decide)
    · rcases hcE with ⟨e1, -⟩ | ⟨-, hb, hg⟩
      · exact absurd e1 (by decide)
      · rcases hm1 with ⟨g1, -⟩ | ⟨-, -, ht, hm⟩ | ⟨b2, k2, e2, q2, hb2, he2, hk3, hu, -⟩
        · exact (zbx_sx g1 hb).elim
        · exact zLq_x h (c := 2) (by decide) hv hz hk hkm ht hc hm
        · exact (hg (ok k2 hk3 q2 hu)).elim
theorem zLq_getp (h : zLI N σ τ I P) {x q : Int32} (hv : zLV [0, 2] (fun v I' P' J' => (∃ b k, x = nI b ∧ q = nI k ∧ b < 40 ∧ sEx σ b = true ∧ k < 20 ∧ v = some (.int (sSt σ b k))) ∧ zCl σ I' P' ∧ zKp I P J I' P' J') (zXp σ I P J (fun E => zc0 σ x E ∨ (E = zEn 2 ∧ sBx σ x ∧ ¬ (0 ≤ q ∧ q < 20)))) v I1 P1 J1) (hw : (∃ z, w = some (.int z)) ∧ ((zbx σ x = false ∧ I2 95 3 = 1) ∨ ((zbx σ x = true ∧ ¬ (0 ≤ q ∧ q < 20) ∧ I2 95 3 = 2) ∨ ∃ b k, x = nI b ∧ q = nI k ∧ b < 40 ∧ sEx σ b = true ∧ k < 20 ∧ w = some (.int (sSt σ b k)) ∧ I2 95 3 = 0)) ∧ zMd σ I2 ∧ zKm I1 P1 J1 I2 P2 J2) : zLq N τ v w I2 P2 J2 := by
  obtain ⟨⟨z, hz⟩, hm1, hm, hkm⟩ := hw
  have ok : ∀ k, k < 20 → q = nI k → 0 ≤ q ∧ q < 20 := fun k hk e => by
    have e2 : (nI k).toInt = (k : Int) := nI_toInt (by omega)
    rw [e, zi_le, zi_lt, e2]
    have a : (0 : Int32).toInt = 0 := rfl
    have b : (20 : Int32).toInt = 20 := rfl
    omega
  rcases hv with ⟨hv, r, K1, hJ, ⟨b, k, hx, hq, hb4, he, hk2, hr⟩, hc, hk⟩ | ⟨i, k, hik, hv, hcE, hc, hk⟩
  · subst hx
    rcases hm1 with ⟨g1, -⟩ | ⟨-, g2, -⟩ | ⟨b2, k2, e2, q2, hb2, -, hk3, hw2, ht⟩
    · exact (zbx_sx g1 ⟨b, rfl, hb4, he⟩).elim
    · exact (g2 (ok k hk2 hq)).elim
    · have e := zb_eq hb4 hb2 e2
      have e3 : k = k2 := zb_eq (by omega) (by omega) (hq.symm.trans q2)
      subst e
      subst e3
      exact zLq_0 h hJ hv hw2 (by cases hr; rfl) hk hkm ht hc hm
  · rcases zk2 hik with ⟨rfl, rfl⟩ | ⟨rfl, rfl⟩
    · rcases hcE with ⟨-, hn⟩ | ⟨e1, -⟩
      · rcases hm1 with ⟨-, ht⟩ | ⟨g1, -⟩ | ⟨b2, k2, e2, q2, hb2, he2, -⟩
        · exact zLq_x h (c := 1) (by decide) hv hz hk hkm ht hc hm
        · exact (hn (zbx_iff.mp g1)).elim
        · exact (hn ⟨b2, e2, hb2, he2⟩).elim
      · exact absurd e1 (by decide)
    · rcases hcE with ⟨e1, -⟩ | ⟨-, hb, hg⟩
      · exact absurd e1 (by decide)
      · rcases hm1 with ⟨g1, -⟩ | ⟨-, -, ht⟩ | ⟨b2, k2, e2, q2, hb2, he2, hk3, -⟩
        · exact (zbx_sx g1 hb).elim
        · exact zLq_x h (c := 2) (by decide) hv hz hk hkm ht hc hm
        · exact (hg (ok k2 hk3 q2)).elim
theorem zLq_copy (h : zLI N σ τ I P) {x y : Int32} (hv : zLV [0] (fun v I' P' J' => (∃ a b, x = nI a ∧ y = nI b ∧ a < 40 ∧ b < 40 ∧ sEx σ a = true ∧ sEx σ b = true ∧ v = some (.int (nI (sCpC σ a b 17))) ∧ zCl (sCpy σ a b) I' P') ∧ zKp I P J I' P' J') (zXp σ I P J (fun E => zc0 σ x E ∨ zc0 σ y E)) v I1 P1 J1) (hw : (∃ a b, x = nI a ∧ y = nI b ∧ a < 40 ∧ b < 40 ∧ sEx σ a = true ∧ sEx σ b = true ∧ w = some (.int (nI (sCpC σ a b 17))) ∧ I2 95 3 = 0 ∧ zMd (sCpy σ a b) I2 ∧ zKm I1 P1 J1 I2 P2 J2) ∨ ((zbx σ x = false ∨ zbx σ y = false) ∧ w = some (.int 0) ∧ I2 95 3 = 1 ∧ zMd σ I2 ∧ zKm I1 P1 J1 I2 P2 J2)) : zLq N τ v w I2 P2 J2 := by
  rcases hv with ⟨hv, r, K1, hJ, ⟨a, b, hx, hy, ha4, hb4, hea, heb, hr, hc⟩, hk⟩ | ⟨i, k, hik, hv, hcE, hc, hk⟩
  · subst hx
    subst hy
    rcases hw with ⟨a2, b2, ea, eb, ha2, hb2, -, -, hw2, ht, hm, hkm⟩ | ⟨g, -⟩
    · have e := zb_eq ha4 ha2 ea
      have e3 := zb_eq hb4 hb2 eb
      subst e
      subst e3
      exact zLq_0 h hJ hv hw2 (by cases hr; rfl) hk hkm ht hc hm
    · rcases g with g | g
      · exact (zbx_sx g ⟨a, rfl, ha4, hea⟩).elim
      · exact (zbx_sx g ⟨b, rfl, hb4, heb⟩).elim
  · obtain ⟨rfl, rfl⟩ := zk1 hik
    rcases hw with ⟨a2, b2, ea, eb, ha2, hb2, hea, heb, -⟩ | ⟨g, hw2, ht, hm, hkm⟩
    · rcases hcE with ⟨-, hn⟩ | ⟨-, hn⟩
      · exact (hn ⟨a2, ea, ha2, hea⟩).elim
      · exact (hn ⟨b2, eb, hb2, heb⟩).elim
    · exact zLq_x h (c := 1) (by decide) hv hw2 hk hkm ht hc hm
theorem zLq_wf (h : zLI N σ τ I P) {x n : Int32} (hv : zLV [0, 2, 1] (fun v I' P' J' => (∃ b, x = nI b ∧ sSh σ b = true ∧ (0 ≤ n ∧ n ≤ 100) ∧ v = some (.int (sWf σ b n))) ∧ zCl σ I' P' ∧ zKp I P J I' P' J') (zXp σ I P J (fun E => zc0 σ x E ∨ ((E = zEn 2 ∧ sBx σ x ∧ ¬ (0 ≤ n ∧ n ≤ 100)) ∨ (zc1 σ x E ∧ 0 ≤ n ∧ n ≤ 100)))) v I1 P1 J1) (hw : (∃ z, w = some (.int z)) ∧ ((zbx σ x = false ∧ I2 95 3 = 1) ∨ ((zbx σ x = true ∧ ¬ (0 ≤ n ∧ n ≤ 100) ∧ I2 95 3 = 2) ∨ ∃ b, x = nI b ∧ b < 40 ∧ sEx σ b = true ∧ (0 ≤ n ∧ n ≤ 100) ∧ ((sSh σ b = false ∧ I2 95 3 = 3) ∨ (sSh σ b = true ∧ w = some (.int (sWf σ b n)) ∧ I2 95 3 = 0)))) ∧ zMd σ I2 ∧ zKm I1 P1 J1 I2 P2 J2) : zLq N τ v w I2 P2 J2 := by
  obtain ⟨⟨z, hz⟩, hm1, hm, hkm⟩ := hw
  rcases hv with ⟨hv, r, K1, hJ, ⟨b, hx, hs, hn, hr⟩, hc, hk⟩ | ⟨i, k, hik, hv, hcE, hc, hk⟩
  · have hb4 := (sSh_ex h.1.1.1 hs).1
    subst hx
    rcases hm1 with ⟨g1, -⟩ | ⟨-, g2, -⟩ | ⟨b2, e2, hb2, -, -, h3⟩
    · exact (zbx_sx g1 ⟨b, rfl, hb4, (sSh_ex h.1.1.1 hs).2⟩).elim
    · exact (g2 hn).elim
    · have e := zb_eq hb4 hb2 e2
      subst e
      rcases h3 with ⟨hs2, -⟩ | ⟨-, hw2, ht⟩
      · rw [hs2] at hs
        cases hs
      · exact zLq_0 h hJ hv hw2 (by cases hr; rfl) hk hkm ht hc hm
  · rcases zk3 hik with ⟨rfl, rfl⟩ | ⟨rfl, rfl⟩ | ⟨rfl, rfl⟩
    · rcases hcE with ⟨-, hn⟩ | ⟨e1, -⟩ | ⟨⟨e1, -⟩, -⟩
      · rcases hm1 with ⟨-, ht⟩ | ⟨g1, -⟩ | ⟨b2, e2, hb2, he2, -⟩
        · exact zLq_x h (c := 1) (by decide) hv hz hk hkm ht hc hm
        · exact (hn (zbx_iff.mp g1)).elim
        · exact (hn ⟨b2, e2, hb2, he2⟩).elim
      · exact absurd e1 (by decide)
      · exact absurd e1 (by decide)
    · rcases hcE with ⟨e1, -⟩ | ⟨-, hb, hg⟩ | ⟨⟨e1, -⟩, -⟩
      · exact absurd e1 (by decide)
      · rcases hm1 with ⟨g1, -⟩ | ⟨-, -, ht⟩ | ⟨b2, e2, hb2, he2, g3, -⟩
        · exact (zbx_sx g1 hb).elim
        · exact zLq_x h (c := 2) (by decide) hv hz hk hkm ht hc hm
        · exact (hg g3).elim
      · exact absurd e1 (by decide)
    · rcases hcE with ⟨e1, -⟩ | ⟨e1, -⟩ | ⟨⟨-, b, hx, hb4, he, hs⟩, hg⟩
      · exact absurd e1 (by decide)
      · exact absurd e1 (by decide)
      · subst hx
        rcases hm1 with ⟨g1, -⟩ | ⟨-, g2, -⟩ | ⟨b2, e2, hb2, he2, g3, h3⟩
        · exact (zbx_sx g1 ⟨b, rfl, hb4, he⟩).elim
        · exact (g2 hg).elim
        · have e := zb_eq hb4 hb2 e2
          subst e
          rcases h3 with ⟨-, ht⟩ | ⟨hs2, -⟩
          · exact zLq_x h (c := 3) (by decide) hv hz hk hkm ht hc hm
          · rw [hs2] at hs
            cases hs
/-- a step that answers nothing: only what is thrown is compared -/
def zLn (N : Nat) (τ : Nat → zS) (v : Option Value) (I2 : Nat → Nat → Int32) (P2 : Nat → Nat → Option Nat) : Prop := ∃ c : Int32, v = some (.int c) ∧ I2 95 3 = c ∧ ∃ σ', zLI N σ' τ I2 P2
theorem zLn_vp (h : zLI N σ τ I P) {x y : Int32} (hv : zLN [2] (fun r I' P' J' => ((0 ≤ x ∧ x ≤ 2000) ∧ 0 ≤ y ∧ y ≤ 2000) ∧ r = none ∧ zCl (sVp σ x y) I' P' ∧ zKp I P J I' P' J') (zXp σ I P J (fun E => E = zEn 2 ∧ ¬ ((0 ≤ x ∧ x ≤ 2000) ∧ 0 ≤ y ∧ y ≤ 2000))) v I1 P1 J1) (hw : ((¬ ((0 ≤ x ∧ x ≤ 2000) ∧ 0 ≤ y ∧ y ≤ 2000) ∧ I2 95 3 = 1 ∧ zMd σ I2) ∨ ((0 ≤ x ∧ x ≤ 2000) ∧ (0 ≤ y ∧ y ≤ 2000) ∧ I2 95 3 = 0 ∧ zMd (sVp σ x y) I2)) ∧ zKm I1 P1 J1 I2 P2 J2) : zLn N τ v I2 P2 := by
  obtain ⟨hm1, hkm⟩ := hw
  rcases hv with ⟨hv, hin, -, hc, hk⟩ | ⟨i, k, hik, hv, hcE, hc, hk⟩
  · rcases hm1 with ⟨g, -⟩ | ⟨-, -, ht, hm⟩
    · exact (g hin).elim
    · exact ⟨0, hv, ht, _, zLI_k h (zKL_of hk hkm) (zCl_m hkm hc) hm⟩
  · obtain ⟨rfl, rfl⟩ := zk1 hik
    rcases hm1 with ⟨-, ht, hm⟩ | ⟨g1, g2, -⟩
    · exact ⟨1, hv, ht, _, zLI_k h (zKL_of hk hkm) (zCl_m hkm hc) hm⟩
    · exact (hcE.2 ⟨g1, g2⟩).elim
end
end ZJN
