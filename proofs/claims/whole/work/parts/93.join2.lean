section ZJ2
theorem zMd_lt {σ : zS} {I I' : Nat → Nat → Int32} (e : ∀ j, j < 843 → I' 96 j = I 96 j) (h : zMd σ I) : zMd σ I' := by
  obtain ⟨h1, h2, h3, h4, h5, h6⟩ := h
  have g40 : sGv σ ≤ 40 := h1.2.2.1
  refine ⟨h1, (e _ (by decide)).trans h2, (e _ (by decide)).trans h3, (e _ (by decide)).trans h4, fun b hb => (e _ (by omega)).trans (h5 b hb), fun b k hb hk => (e _ ?_).trans (h6 b k hb hk)⟩
  have := h1.2.2.2.1 b hb
  omega
theorem zCl_95 {σ : zS} {I I' : Nat → Nat → Int32} {P : Nat → Nat → Option Nat} (o : ∀ q j, q < 95 → I' q j = I q j) (h : zCl σ I P) : zCl σ I' P := by
  have lt : ∀ b, sEx σ b = true → b < 40 := fun b hb => zTr_lt h.1 hb
  obtain ⟨⟨t1, t2, t3, t4, t5, t6, t7, t8, t9, t10⟩, ⟨r1, r2, r3⟩, ha⟩ := h
  refine ⟨⟨t1, fun b hb => (o b 0 (by omega)).trans (t2 b hb), fun b hb => (o b 2 (by omega)).trans (t3 b hb), t4, t5, t6, fun b k hb hk => (o _ k (by have := lt b hb; omega)).trans (t7 b k hb hk), (o 81 2 (by decide)).trans t8, (o 81 3 (by decide)).trans t9, (o 81 4 (by decide)).trans t10⟩, ⟨(o 0 12 (by decide)).trans r1, (o 0 13 (by decide)).trans r2, (o 0 17 (by decide)).trans r3⟩, fun q => ?_⟩
  obtain ⟨⟨l1, l2⟩, a⟩ := ha ((o 82 2 (by decide)).symm.trans q)
  refine ⟨⟨fun p hp => ?_, l2⟩, fun b hb => ?_⟩
  · obtain ⟨c1, c2, c3, c4⟩ := l1 p hp
    exact ⟨(o p 4 (by omega)).trans c1, (o p 5 (by omega)).trans c2, (o p 8 (by omega)).trans c3, c4⟩
  · have hb4 := (sSh_ex t1 hb).1
    obtain ⟨a1, a2, a3, a4, a5, a6, a7, a8⟩ := a b hb
    exact ⟨(o b 10 (by omega)).trans a1, (o b 11 (by omega)).trans a2, (o b 12 (by omega)).trans a3, (o b 13 (by omega)).trans a4, (o b 14 (by omega)).trans a5, (o b 15 (by omega)).trans a6, (o b 16 (by omega)).trans a7, (o b 17 (by omega)).trans a8⟩
theorem z0le1 {x : Int32} : (0 ≤ x ∧ x < 2) ↔ (0 ≤ x ∧ x ≤ 1) := by
  rw [zi_le, zi_lt, zi_le]
  have a : (0 : Int32).toInt = 0 := rfl
  have b : (1 : Int32).toInt = 1 := rfl
  have c : (2 : Int32).toInt = 2 := rfl
  omega
theorem z0le1_t {x : Int32} {t : Nat} (e : x = nI t) (ht : t < 2) : 0 ≤ x ∧ x < 2 := by
  have e2 : (nI t).toInt = (t : Int) := nI_toInt (by omega)
  rw [e, zi_le, zi_lt, e2]
  have a : (0 : Int32).toInt = 0 := rfl
  have c : (2 : Int32).toInt = 2 := rfl
  omega
section
variable {N : Nat} {σ : zS} {τ : Nat → zS} {I I1 I2 : Nat → Nat → Int32} {P P1 P2 : Nat → Nat → Option Nat} {J J1 J2 : Nat → Nat → Int64} {v w : Option Value}
theorem zLn_rest (h : zLI N σ τ I P) {x : Int32} (hv : zLN [2, 1] (fun v I' P' J' => (∃ t s, x = nI t ∧ t < 2 ∧ P 85 t = some s ∧ v = none ∧ zCl (τ t) I' P') ∧ zKp I P J I' P' J') (zXp σ I P J (fun E => zc2 x E ∨ (E = zEn 1 ∧ ∃ t, x = nI t ∧ t < 2 ∧ P 85 t = none))) v I1 P1 J1) (hw : P2 = P1 ∧ J2 = J1 ∧ ((¬ (0 ≤ x ∧ x ≤ 1) ∧ I2 = z_u I1 95 3 1) ∨ ((∃ t, x = nI t ∧ t < 2 ∧ I1 98 t = 0 ∧ I2 = z_u I1 95 3 2) ∨ ∃ t, x = nI t ∧ t < 2 ∧ ¬ I1 98 t = 0 ∧ I2 = zrow (fun j => I1 97 (843 * t + j)) (z_u I1 95 3 0) 96 843))) : zLn N τ v I2 P2 := by
  obtain ⟨hP2, -, hm⟩ := hw
  have hx : ∀ c : Int32, ∀ K, zKp I P J I1 P1 K → zCl σ I1 P1 → I2 = z_u I1 95 3 c → v = some (.int c) → zLn N τ v I2 P2 := fun c K hk hc e hv => by
    rw [e, hP2]
    refine ⟨c, hv, z_u_s _ _ _ _, σ, zLI_k h ⟨fun q j hq => (z_u_a _ _ (by omega)).trans (hk.2.1 q j (by omega)), fun j => ⟨(z_u_a _ _ (by decide)).trans (hk.2.1 _ _ (by decide)), (z_u_a _ _ (by decide)).trans (hk.2.1 _ _ (by decide))⟩, fun t => hk.2.2 85 t (by decide)⟩ (zCl_95 (fun q j hq => z_u_a _ _ (by omega)) hc) (zMd_c (fun j => (z_u_a _ _ (by decide)).trans (hk.2.1 96 j (by decide))) h.2.1)⟩
  rcases hv with ⟨hv, ⟨t, s, hx1, ht, hp, -, hc⟩, hk⟩ | ⟨i, k, hik, hv, hcE, hc, hk⟩
  · rcases hm with ⟨g, -⟩ | ⟨t2, e2, ht2, g, -⟩ | ⟨t2, e2, ht2, g, e⟩
    · exact (g (z0le1.mp (z0le1_t hx1 ht))).elim
    · have et : t = t2 := zb_eq (by omega) (by omega) (hx1.symm.trans e2)
      subst et
      rcases h.2.2.2.1 t ht with ⟨q1, -⟩ | ⟨s2, -, -, -, q2, -⟩
      · rw [q1] at hp
        cases hp
      · rw [hk.2.1 98 t (by decide), q2] at g
        exact absurd g (by decide)
    · have et : t = t2 := zb_eq (by omega) (by omega) (hx1.symm.trans e2)
      subst et
      rcases h.2.2.2.1 t ht with ⟨q1, -⟩ | ⟨s2, -, -, -, q2, hmd⟩
      · rw [q1] at hp
        cases hp
      · have o : ∀ q j, q ≠ 96 → q ≠ 95 → I2 q j = I1 q j := fun q j h1 h2 => by
          rw [e, zrow_x _ _ h1, z_u_a _ _ h2]
        rw [hP2]
        refine ⟨0, hv, ?_, τ t, zLI_k h ⟨fun q j hq => (o q j (by omega) (by omega)).trans (hk.2.1 q j (by omega)), fun j => ⟨(o 97 j (by decide) (by decide)).trans (hk.2.1 _ _ (by decide)), (o 98 j (by decide) (by decide)).trans (hk.2.1 _ _ (by decide))⟩, fun t => hk.2.2 85 t (by decide)⟩ (zCl_95 (fun q j hq => o q j (by omega) (by omega)) hc) (zMd_lt (fun j hj => ?_) hmd)⟩
        · rw [e, zrow_x _ _ (by decide), z_u_s]
        · rw [e]
          show (if 96 = 96 ∧ j < 843 then I1 97 (843 * t + j) else _) = _
          rw [if_pos ⟨rfl, hj⟩]
          exact hk.2.1 97 _ (by decide)
  · rcases zk2 hik with ⟨rfl, rfl⟩ | ⟨rfl, rfl⟩
    · rcases hcE with ⟨-, hn⟩ | ⟨e1, -⟩
      · rcases hm with ⟨-, e⟩ | ⟨t2, e2, ht2, -⟩ | ⟨t2, e2, ht2, -⟩
        · exact hx 1 J1 hk hc e hv
        · exact (hn (z0le1_t e2 ht2)).elim
        · exact (hn (z0le1_t e2 ht2)).elim
      · exact absurd e1 (by decide)
    · rcases hcE with ⟨e1, -⟩ | ⟨-, t, hx1, ht, hp⟩
      · exact absurd e1 (by decide)
      · rcases hm with ⟨g, -⟩ | ⟨t2, -, -, -, e⟩ | ⟨t2, e2, ht2, g, -⟩
        · exact (g (z0le1.mp (z0le1_t hx1 ht))).elim
        · exact hx 2 J1 hk hc e hv
        · have et : t = t2 := zb_eq (by omega) (by omega) (hx1.symm.trans e2)
          subst et
          rcases h.2.2.2.1 t ht with ⟨-, q1⟩ | ⟨s2, q1, -⟩
          · rw [hk.2.1 98 t (by decide), q1] at g
            exact (g rfl).elim
          · rw [q1] at hp
            cases hp
/-- .. save: the world may have grown -/
def zLnG (σ : zS) (f : Nat → Nat) (g : zG) (N N' : Nat) (v : Option Value) (I2 : Nat → Nat → Int32) (P2 : Nat → Nat → Option Nat) : Prop := (∀ i, i < N → f i = g.1 i) ∧ N ≤ N' ∧ ∃ c : Int32, v = some (.int c) ∧ I2 95 3 = c ∧ ∃ τ', zLI N' σ τ' I2 P2
theorem zLn_save {g : zG} {f : Nat → Nat} {N' : Nat} (h : zLI N σ τ I P) {x : Int32} (hv : zLG g N [2] (zSvP σ g N I P J x) (zXp σ I P J (fun E => zc2 x E)) f N' v I1 P1 J1) (hw : P2 = P1 ∧ J2 = J1 ∧ ((¬ (0 ≤ x ∧ x ≤ 1) ∧ I2 = z_u I1 95 3 1) ∨ ∃ t, x = nI t ∧ t < 2 ∧ I2 = z_u (zcp (z_u I1 95 3 0) t 843) 98 t 1)) : zLnG σ f g N N' v I2 P2 := by
  obtain ⟨hP2, -, hm⟩ := hw
  rcases hv with ⟨hv, -, -, hf, t, s, hx1, ht, hc, hs, hsn, hp, hI, hoth, hgr⟩ | ⟨hf, hN, i, k, hik, hv, hcE, hc, hk⟩
  · rcases hm with ⟨g1, -⟩ | ⟨t2, e2, ht22, e⟩
    · exact (g1 (z0le1.mp (z0le1_t hx1 ht))).elim
    · have et : t = t2 := zb_eq (by omega) (by omega) (hx1.symm.trans e2)
      subst et
      rw [hP2]
      obtain ⟨-, hmd, ⟨c, hNc⟩, hsl, hd⟩ := h
      have hNN : N ≤ N' := by rcases hgr with ⟨q, -⟩ | ⟨q, -⟩ <;> omega
      have hs111 := hs.ge
      have o : ∀ q j, q ≠ 95 → q ≠ 97 → q ≠ 98 → I2 q j = I1 q j := fun q j h1 h2 h3 => by
        rw [e, z_u_a _ _ h3]
        unfold zcp
        rw [if_neg (fun z => h2 z.1), z_u_a _ _ h1]
      have h96 : ∀ j, I1 96 j = I 96 j := fun j => hI 96 j (by decide) (by omega) (by omega)
      refine ⟨hf, hNN, 0, hv, ?_, fun t2 => if t2 = t then σ else τ t2, zCl_95 (fun q j hq => o q j (by omega) (by omega) (by omega)) hc, zMd_c (fun j => (o 96 j (by decide) (by decide) (by decide)).trans (h96 j)) hmd, ?_, fun t2 ht2 => ?_, fun a ha => ?_⟩
      · rw [e, z_u_a _ _ (by decide)]
        unfold zcp
        rw [if_neg (fun z => absurd z.1 (by decide)), z_u_s]
      · rcases hgr with ⟨q, -⟩ | ⟨q, -⟩
        · exact ⟨c, q.trans hNc⟩
        · exact ⟨c + 1, by omega⟩
      · show (P1 85 t2 = none ∧ I2 98 t2 = 0) ∨ ∃ s, P1 85 t2 = some s ∧ zsn s N' ∧ zSn (if t2 = t then σ else τ t2) I2 s ∧ I2 98 t2 = 1 ∧ zMd (if t2 = t then σ else τ t2) (fun _ j => I2 97 (843 * t2 + j))
        by_cases et : t2 = t
        · rw [if_pos et]
          subst et
          refine Or.inr ⟨s, hp, hs, ?_, ?_, ?_⟩
          · exact zSn_fr hsn (fun q j hq _ => o q j (by omega) (by omega) (by omega))
          · rw [e, z_u_s]
          · refine zMd_lt (fun j hj => ?_) hmd
            show I2 97 (843 * t2 + j) = I 96 j
            rw [e, z_u_a _ _ (by decide)]
            unfold zcp
            rw [if_pos ⟨rfl, by omega, by omega⟩, z_u_a _ _ (by decide), Nat.add_sub_cancel_left]
            exact h96 j
        · rw [if_neg et]
          have h98 : I2 98 t2 = I 98 t2 := by
            rw [e, z_u_b _ _ et]
            unfold zcp
            rw [if_neg (fun z => absurd z.1 (by decide)), z_u_a _ _ (by decide)]
            exact hI 98 t2 (by decide) (by omega) (by omega)
          rcases hsl t2 ht2 with ⟨q1, q2⟩ | ⟨s2, q1, q2, q3, q4, q5⟩
          · exact Or.inl ⟨(hoth t2 et).1 q1, h98.trans q2⟩
          · have hne : s2 ≠ s := fun q => by
              subst q
              rcases hgr with ⟨-, q⟩ | ⟨-, q, -⟩
              · rcases (by omega : (t = 0 ∧ t2 = 1) ∨ (t = 1 ∧ t2 = 0)) with ⟨rfl, rfl⟩ | ⟨rfl, rfl⟩
                · exact hd _ q q1
                · exact hd _ q1 q
              · have := q2.2
                omega
            have hs44 := q2.2
            obtain ⟨c1, e1⟩ := q2.1
            obtain ⟨c2, e22⟩ := hs.1
            refine Or.inr ⟨s2, (hoth t2 et).2 s2 (by omega) q1, ⟨q2.1, by omega⟩, zSn_fr q3 (fun q j h1 h2 => (o q j (by omega) (by omega) (by omega)).trans (hI q j (by omega) (by omega) (by omega))), h98.trans q4, zMd_lt (fun j hj => ?_) q5⟩
            show I2 97 (843 * t2 + j) = I 97 (843 * t2 + j)
            rw [e, z_u_a _ _ (by decide)]
            unfold zcp
            rw [if_neg (fun z => by omega), z_u_a _ _ (by decide)]
            exact hI 97 _ (by decide) (by omega) (by omega)
      · rcases (by omega : t = 0 ∨ t = 1) with rfl | rfl
        · have ea : s = a := Option.some.inj (hp.symm.trans ha)
          subst ea
          intro hq
          rcases hsl 1 (by decide) with ⟨q1, -⟩ | ⟨s2, q1, q2, -⟩
          · rw [(hoth 1 (by decide)).1 q1] at hq
            cases hq
          · have hs44 := q2.2
            rw [(hoth 1 (by decide)).2 s2 (by omega) q1] at hq
            cases hq
            rcases hgr with ⟨-, q⟩ | ⟨-, q, -⟩
            · exact hd _ q q1
            · omega
        · intro hq
          have ea : s = a := Option.some.inj (hp.symm.trans hq)
          subst ea
          rcases hsl 0 (by decide) with ⟨q1, -⟩ | ⟨s2, q1, q2, -⟩
          · rw [(hoth 0 (by decide)).1 q1] at ha
            cases ha
          · have hs44 := q2.2
            rw [(hoth 0 (by decide)).2 s2 (by omega) q1] at ha
            cases ha
            rcases hgr with ⟨-, q⟩ | ⟨-, q, -⟩
            · exact hd _ q1 q
            · omega
  · obtain ⟨rfl, rfl⟩ := zk1 hik
    rcases hm with ⟨-, e⟩ | ⟨t2, e2, ht2, -⟩
    · rw [e, hP2, hN]
      refine ⟨fun i _ => by rw [hf], Nat.le_refl _, 1, hv, z_u_s _ _ _ _, τ, zLI_k h ⟨fun q j hq => (z_u_a _ _ (by omega)).trans (hk.2.1 q j (by omega)), fun j => ⟨(z_u_a _ _ (by decide)).trans (hk.2.1 _ _ (by decide)), (z_u_a _ _ (by decide)).trans (hk.2.1 _ _ (by decide))⟩, fun t => hk.2.2 85 t (by decide)⟩ (zCl_95 (fun q j hq => z_u_a _ _ (by omega)) hc) (zMd_c (fun j => (z_u_a _ _ (by decide)).trans (hk.2.1 96 j (by decide))) h.2.1)⟩
    · exact (hcE.2 (z0le1_t e2 ht2)).elim
end
end ZJ2
