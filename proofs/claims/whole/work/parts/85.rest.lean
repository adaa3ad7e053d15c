section ZRS
theorem zkX5_restore : z_pkV yX5_restore cX5_restore 3 (Option.none : Option FieldType) RX5 1 := ⟨zm_4_52, zm_4_53, zm_1_1, zm_4_54, rfl, by decide, by decide, by decide +kernel⟩
/-- why save and restore may throw: no such slot -/
def zc2 (x : Int32) (E : String) : Prop := E = zEn 2 ∧ ¬ (0 ≤ x ∧ x < 2)
section
variable {C : zC} {g : zG} {N nL cells slots : Nat} {I : Nat → Nat → Int32} {P : Nat → Nat → Option Nat} {J : Nat → Nat → Int64} {pc : Nat} {lv : List (Nat × Value)} {st : List Value} {cc : ByteArray} {own : String} {Ts : List Cond}
theorem z_slN (hC : zX C cc nL own Ts g N) (k : Nat) {x : Int32} (hN : 85 < N) (hi : x = nI k) (hk : k < 2) (hdg : decode cc pc = .ok (.aaload, 1)) (kk : zJ C g N nL cells slots I P J (pc + 1) lv (va_rf (Option.map g.1 (P 85 k)) :: st)) : zJ C g N nL cells slots I P J pc lv (.int x :: .ref (g.1 85) :: st) := by
  subst hi
  have e : (nI k).toNatClampNeg = k := nI_clamp (by omega)
  refine z_aaldS (id := 85) (n := 2) hC rfl hN (vp_in_nI hk (by decide)) hdg ?_
  rw [e]
  exact kk
end
theorem zRs_end {τ : zS} {s : Nat} (h1 : 111 ≤ s) {I Ir : Nat → Nat → Int32} {P Pr : Nat → Nat → Option Nat} (hn : ∀ b, b < 40 → I b 0 = nI b) (hr : zRt I) (hs : zSn τ (z_u I 82 2 1) s) (h : zsr s 40 (z_u I 82 2 1) P Ir Pr) : zCl τ Ir Pr := by
  refine zCl_st (zsr_end (fun b hb => (z_u_a _ _ (by omega)).trans (hn b hb)) hs h) ⟨?_, ?_, ?_⟩ ?_
  · rw [h.1 0 12 (by omega) (by omega) (by omega)]; exact hr.1
  · rw [h.1 0 13 (by omega) (by omega) (by omega)]; exact hr.2.1
  · rw [h.1 0 17 (by omega) (by omega) (by omega)]; exact hr.2.2
  · rw [h.1 82 2 (by omega) (by omega) (by omega)]; rfl
theorem zRs_kp {s : Nat} {I Ir : Nat → Nat → Int32} {P Pr : Nat → Nat → Option Nat} {J : Nat → Nat → Int64} (h : zsr s 40 (z_u I 82 2 1) P Ir Pr) : zKp I P J Ir Pr J :=
  ⟨rfl, fun q j hq => (h.1 q j (by omega) (by omega) (by omega)).trans (z_u_a _ _ (by omega)), fun q j hq => h.2.2.1 q j (by omega)⟩
set_option maxHeartbeats 4000000 in
set_option maxRecDepth 100000 in
theorem kX5_restore (lx : Launch) (hst : lx.stackTraces = false) (g : zG) (sa : Nat → Nat) (N : Nat) (I : Nat → Nat → Int32) (P : Nat → Nat → Option Nat) (J : Nat → Nat → Int64) {σ : zS} (hc : zCl σ I P) (τ : Nat → zS) (hsl : ∀ t s, t < 2 → P 85 t = some s → zsn s N ∧ zSn (τ t) I s) (x : Int32) : z_CtX lx yX5_restore (zT yX5_restore cX5_restore 3 (Option.none : Option FieldType)) ({ frames := 6, cells := 1, slots := 6, locals := 143 } : Room) g sa N I P J [.ref (g.1 80), .int x] (fun v I' P' J' => (∃ t s, x = nI t ∧ t < 2 ∧ P 85 t = some s ∧ v = none ∧ zCl (τ t) I' P') ∧ zKp I P J I' P' J') (zXp σ I P J (fun E => zc2 x E ∨ (E = zEn 1 ∧ ∃ t, x = nI t ∧ t < 2 ∧ P 85 t = none))) 1 6 := by
  refine z_ofX (by decide) (Nat.le_of_ble_eq_true rfl) (lv0 := [(0, .ref (g.1 80)), (1, .int x)]) rfl ?_
  intro C hlx hC hE hRm hX
  have hC : zX C cX5_restore 3 RX5 (zT yX5_restore cX5_restore 3 (Option.none : Option FieldType)) g N := hC
  refine z_iload_n (pc := 0) hC 1 dX5_restore_0 rfl rfl ?_
  refine z_if_lt (pc := 1) (tgt := 9) hC dX5_restore_1 (by decide) (fun h1 => ?_) (fun h1 => ?_)
  · skip
    have g1 := Int32.not_le.mpr h1
    exact z_throw (pc := 9) hC hE hX hRm (by rw [hlx]; exact hst) 2 8 (by decide) rfl (by decide +kernel) zm_3_65 zm_1_12 zat_2 znb_2 zgw_2 dX5_restore_9 dX5_restore_12 dX5_restore_13 dX5_restore_15 dX5_restore_18 ⟨Nat.le_of_ble_eq_true rfl, Nat.le_of_ble_eq_true rfl, Nat.le_of_ble_eq_true rfl, Nat.le_of_ble_eq_true rfl⟩ ⟨by decide, by decide⟩ ⟨Or.inl ⟨rfl, fun q => absurd h1 (Int32.not_lt.mpr q.1)⟩, hc, zKp.rf⟩
  · skip
    have g1 := Int32.not_lt.mp h1
    refine z_iload_n (pc := 4) hC 1 dX5_restore_4 rfl rfl ?_
    refine z_iconst (pc := 5) (v := 2) hC dX5_restore_5 rfl ?_
    refine z_icmp_lt (pc := 6) (tgt := 19) hC dX5_restore_6 (by decide) (fun h6 => ?_) (fun h6 => ?_)
    · skip
      have g6 := Int32.not_le.mpr h6
      obtain ⟨t, ht, rfl⟩ := zi_nI (n := 2) (by decide) g1 h6
      refine z_aload_n (pc := 19) hC 0 dX5_restore_19 rfl rfl z_isr_r ?_
      refine z_gF (pc := 20) hC 5 2 (t := 85) rfl (z_lt hC (by decide)) rfl inX5 (by decide) rfl zm_1_215 rfl dX5_restore_20 ?_
      refine z_iload_n (pc := 23) hC 1 dX5_restore_23 rfl rfl ?_
      refine z_slN (pc := 24) hC t (z_lt hC (by decide)) rfl ht dX5_restore_24 ?_
      refine z_astore_n (pc := 25) (lv' := [(2, va_rf (Option.map g.1 (P 85 t))), (0, .ref (g.1 80)), (1, .int (nI t))]) hC dX5_restore_25 rfl (by decide) (z_isr_o _) rfl ?_
      refine z_aload_n (pc := 26) hC 0 dX5_restore_26 rfl rfl (z_isr_o _) ?_
      refine z_ifnonnull (pc := 27) (tgt := 40) hC dX5_restore_27 (by decide) (fun a27 h27 => ?_) (fun h27 => ?_)
      · skip
        rw [h27]
        show zJ C g N 3 0 0 I P J 40 [(2, .ref (g.1 a27)), (0, .ref (g.1 80)), (1, .int (nI t))] []
        obtain ⟨hs, hsn⟩ := hsl t a27 ht h27
        obtain ⟨s, es⟩ : ∃ s, s = a27 := ⟨_, rfl⟩
        rw [← es] at hs hsn h27 ⊢
        have hsn2 : zSn (τ t) (z_u I 82 2 1) s := zSn_fr hsn (fun q j h1 h2 => z_u_a _ _ (by have := hs.ge; omega))
        refine z_aload_n (pc := 40) hC 1 dX5_restore_40 rfl rfl z_isr_r ?_
        refine z_gF (pc := 41) hC 5 1 (t := 82) rfl (z_lt hC (by decide)) rfl inX5 (by decide) rfl zm_1_214 rfl dX5_restore_41 ?_
        refine z_iconst (pc := 44) (v := 1) hC dX5_restore_44 rfl ?_
        refine z_pI (pc := 45) hC 2 2 rfl (z_lt hC (by decide)) rfl inX2 tyX2_ok nmX2 (by decide) rfl zm_1_203 rfl (z_b01 (Or.inr rfl)) (z_f01 (Or.inr rfl)) dX5_restore_45 ?_
        refine z_aload_n (pc := 48) hC 1 dX5_restore_48 rfl rfl z_isr_r ?_
        refine z_gF (pc := 49) hC 5 0 (t := 81) rfl (z_lt hC (by decide)) rfl inX5 (by decide) rfl zm_1_213 rfl dX5_restore_49 ?_
        refine z_aload_n (pc := 52) hC 0 dX5_restore_52 rfl rfl z_isr_r ?_
        refine z_callV (pc := 53) (st := []) hC [.ref (g.1 s)] (kX4_takeFrom C.2.1 g N (z_u I 82 2 1) P J s hs (sEx (τ t)) hsn2.2.2.1 hsn2.2.2.2.1) rfl (z_lt hC (by decide)) rfl zkX4_takeFrom zm_4_56 ⟨rfl, rfl⟩ rfl rfl hRm ⟨Nat.le_of_ble_eq_true rfl, Nat.le_of_ble_eq_true rfl⟩ (Nat.le_of_ble_eq_true rfl) ⟨Nat.le_of_ble_eq_true rfl, Nat.le_of_ble_eq_true rfl⟩ dX5_restore_53 ?_
        intro v I2 P2 J2 hq
        obtain ⟨hv, hJ, hz⟩ := hq
        subst hv
        rw [hJ]
        show zJ C g N 3 0 0 I2 P2 J 56 [(2, .ref (g.1 s)), (0, .ref (g.1 80)), (1, .int (nI t))] []
        exact z_vretX (pc := 56) hC hE ⟨by decide, by decide⟩ dX5_restore_56 ⟨⟨t, s, rfl, ht, h27, rfl, zRs_end hs.ge hc.1.2.1 hc.2.1 hsn2 hz⟩, zRs_kp hz⟩
      · skip
        rw [h27]
        show zJ C g N 3 0 0 I P J 30 [(2, .null), (0, .ref (g.1 80)), (1, .int (nI t))] []
        exact z_throw (pc := 30) hC hE hX hRm (by rw [hlx]; exact hst) 1 9 (by decide) rfl (by decide +kernel) zm_3_36 zm_1_11 zat_1 znb_1 zgw_1 dX5_restore_30 dX5_restore_33 dX5_restore_34 dX5_restore_36 dX5_restore_39 ⟨Nat.le_of_ble_eq_true rfl, Nat.le_of_ble_eq_true rfl, Nat.le_of_ble_eq_true rfl, Nat.le_of_ble_eq_true rfl⟩ ⟨by decide, by decide⟩ ⟨Or.inr ⟨rfl, t, rfl, ht, h27⟩, hc, zKp.rf⟩
    · skip
      have g6 := Int32.not_lt.mp h6
      exact z_throw (pc := 9) hC hE hX hRm (by rw [hlx]; exact hst) 2 8 (by decide) rfl (by decide +kernel) zm_3_65 zm_1_12 zat_2 znb_2 zgw_2 dX5_restore_9 dX5_restore_12 dX5_restore_13 dX5_restore_15 dX5_restore_18 ⟨Nat.le_of_ble_eq_true rfl, Nat.le_of_ble_eq_true rfl, Nat.le_of_ble_eq_true rfl, Nat.le_of_ble_eq_true rfl⟩ ⟨by decide, by decide⟩ ⟨Or.inl ⟨rfl, fun q => h6 q.2⟩, hc, zKp.rf⟩
end ZRS
