section ZM17
/-- factors are not negative -/
theorem mFac_nn {σ : zS} (hw : sWF σ) {nat : Nat → Int32} {p x fr z : Nat} {sp : Int32} (hx : x < 2) (hb : zbd σ p nat) (hz : z ≤ kn σ p) {j : Nat} (hj : j < z - fr) : 0 ≤ mFac σ nat p x fr z sp j := by
  have q := mrng hw hx hb hz hj
  unfold mFac fxFac
  rw [zi_le]
  show (0 : Int) ≤ _
  split
  · exact q.2.2.2.2.1.1
  · have m := zmul_nn q.2.2.2.2.2.1 q.2.2.2.2.2.2 q.1.1 q.1.2
    rw [m.1]
    exact m.2.1
theorem mSt_nz {σ : zS} {nat : Nat → Int32} {p x fr z : Nat} {sp : Int32} {j : Nat} (h : mSt σ nat p x fr z sp j = false) : mFac σ nat p x fr z sp j ≠ 0 := by
  unfold mSt fxSt0 at h
  exact of_decide_eq_false (Bool.or_eq_false_iff.mp h).1
theorem mIt {σ : zS} (hw : sWF σ) {nat : Nat → Int32} {p x fr z : Nat} {sp : Int32} (hx : x < 2) (hb : zbd σ p nat) (hz : z ≤ kn σ p) (wd : Bool) (hwd : x = if wd = true then 0 else 1) : ∃ it : Nat → (Nat → Int32) × (Nat → Bool), it 0 = (fxStart (mB σ nat p fr) (mLo σ p x fr) (mHi σ p x fr), mSt σ nat p x fr z sp) ∧ (∀ k j, j < z - fr → 0 ≤ ((it k).1 j).toInt ∧ ((it k).1 j).toInt ≤ 10000) ∧ (∀ k j, j < z - fr → (it k).2 j = false → mFac σ nat p x fr z sp j ≠ 0) ∧ (∀ k, mRnd (z - fr) (mLo σ p x fr) (mHi σ p x fr) (fxP (mGr σ nat p x fr z sp) (fxAmt (mGr σ nat p x fr z sp) (fxRest (mRoom σ p fr z sp) (mB σ nat p fr) (it k).1 (it k).2 (z - fr))).toInt64 (fxOpen (mFac σ nat p x fr z sp) (it k).2 (z - fr)) (mB σ nat p fr) (mFac σ nat p x fr z sp) (it k).2) (it k) = it (k + 1)) ∧ (∀ k, (∃ j, j < z - fr ∧ (it k).2 j = false) → zcn (it (k + 1)).2 (z - fr) < zcn (it k).2 (z - fr)) ∧ ∀ k, (∀ j, j < z - fr → (it k).2 j = true) → ∀ i, fr ≤ i → i < z → (it k).1 (i - fr) = sFx σ p wd nat sp fr z i := by
  have hk := kn_le hw p
  obtain ⟨s0, hs0⟩ : ∃ s : (Nat → Int32) × (Nat → Bool), s = (fxStart (mB σ nat p fr) (mLo σ p x fr) (mHi σ p x fr), mSt σ nat p x fr z sp) := ⟨_, rfl⟩
  have h1 : ∀ j, s0.1 j = zlim (mB σ nat p fr j) (mLo σ p x fr j) (mHi σ p x fr j) := fun j => by rw [hs0]; rfl
  have h2 : ∀ j, j < z - fr → s0.2 j = false → mFac σ nat p x fr z sp j ≠ 0 := fun j _ h => mSt_nz (by rw [hs0] at h; exact h)
  have h3 : ∀ k, fr ≤ k → sFx σ p wd nat sp fr z k = (fxIt (z - fr) (mGr σ nat p x fr z sp) (mRoom σ p fr z sp) (mB σ nat p fr) (mLo σ p x fr) (mHi σ p x fr) (mFac σ nat p x fr z sp) s0 (z - fr)).1 (k - fr) := fun k hk2 => by
    rw [mFx wd hk2, ← hwd, hs0]
  rw [← hs0]
  refine ⟨fun k => fxIt (z - fr) (mGr σ nat p x fr z sp) (mRoom σ p fr z sp) (mB σ nat p fr) (mLo σ p x fr) (mHi σ p x fr) (mFac σ nat p x fr z sp) s0 k, rfl, fun k j hj => ?_, fun k j hj h => ?_, fun k => rfl, fun k h => ?_, fun k h i i1 i2 => ?_⟩
  · have q := mrng hw hx hb hz hj
    have hs : 0 ≤ (s0.1 j).toInt ∧ (s0.1 j).toInt ≤ 10000 := by
      rw [h1]
      exact zlim_rng q.2.1 q.2.2.1
    exact fxIt_rng hs q.2.1 q.2.2.1 k
  · exact fxIt_nz h2 k j hj h
  · exact fxRound_less (by omega) h
  · rw [h3 i i1]
    exact (fxIt_end (by omega) h (by omega)).symm
/-- the sizes and who is fixed stand in the memory -/
def zfl (σ : zS) (p x fr z : Nat) (s : (Nat → Int32) × (Nat → Bool)) (I Ir : Nat → Nat → Int32) : Prop := (∀ q j, q ≠ 106 → q ≠ 108 → ¬ (q = 102 ∧ ∃ i, fr ≤ i ∧ i < z ∧ j = 2 * kd σ p i + x) → Ir q j = I q j) ∧ ∀ j, j < z - fr → Ir 106 (fr + j) = zB (s.2 j) ∧ Ir 102 (2 * kd σ p (fr + j) + x) = s.1 j
theorem zfl_0 {σ : zS} {nat : Nat → Int32} {p x fr z : Nat} {sp : Int32} (hfz : fr ≤ z) {I Ir : Nat → Nat → Int32} {J Jr : Nat → Nat → Int64} (h : zbf σ nat p x fr z sp (z - fr) I J Ir Jr) : zfl σ p x fr z (fxStart (mB σ nat p fr) (mLo σ p x fr) (mHi σ p x fr), mSt σ nat p x fr z sp) I Ir := ⟨fun q j h1 _ h3 => h.1 q j h1 (fun y => h3 ⟨y.1, by obtain ⟨_, i, y1, y2, y3⟩ := y; exact ⟨i, y1, by omega, y3⟩⟩), fun j hj => ⟨(h.2.2 j hj).2.1, (h.2.2 j hj).2.2⟩⟩
theorem zfl_s {σ : zS} {p x fr z : Nat} (hfz : fr ≤ z) {s t : (Nat → Int32) × (Nat → Bool)} {f : Nat → Int32} {u : Nat → Bool} {I Ir I2 I3 : Nat → Nat → Int32} (h : zfl σ p x fr z s I Ir) (h2 : zpp fr f u (z - fr) Ir I2) (h3 : zfs σ p x fr s t (z - fr) I2 I3) : zfl σ p x fr z t I I3 := ⟨fun q j k1 k2 k3 => (h3.1 q j (fun y => k1 y.1) (fun y => k3 ⟨y.1, by obtain ⟨_, i, y1, y2, y3⟩ := y; exact ⟨i, y1, by omega, y3⟩⟩)).trans ((h2.1 q j k2).trans (h.1 q j k1 k2 k3)), h3.2⟩
/-- what flex leaves -/
def zflQ (σ : zS) (nat : Nat → Int32) (p : Nat) (wd : Bool) (x fr z : Nat) (sp : Int32) (I : Nat → Nat → Int32) (P : Nat → Nat → Option Nat) (J : Nat → Nat → Int64) : Option Value → (Nat → Nat → Int32) → (Nat → Nat → Option Nat) → (Nat → Nat → Int64) → Prop := fun v I' P' J' => v = none ∧ P' = P ∧ (∀ q j, q ≠ 107 → J' q j = J q j) ∧ (∀ q j, q ≠ 106 → q ≠ 108 → ¬ (q = 102 ∧ ∃ i, fr ≤ i ∧ i < z ∧ j = 2 * kd σ p i + x) → I' q j = I q j) ∧ ∀ i, fr ≤ i → i < z → I' 102 (2 * kd σ p i + x) = sFx σ p wd nat sp fr z i
set_option maxHeartbeats 4000000 in
set_option maxRecDepth 100000 in
theorem kX6_flex (lx : Launch) (g : zG) (N : Nat) (I : Nat → Nat → Int32) (P : Nat → Nat → Option Nat) (J : Nat → Nat → Int64) {σ : zS} (hm : zMd σ I) (p : Nat) (he : sEx σ p = true) (hk : zKq σ p I) (wd : Bool) (fr z x : Nat) (hx : x = if wd = true then 0 else 1) (hfz : fr ≤ z) (hzk : z ≤ kn σ p) (ha : x < 2) (nat : Nat → Int32) (hn : ∀ k, k ∈ sKids σ p → I 101 (2 * k + x) = nat k) (hb : zbd σ p nat) (sp : Int32) (hsp : 0 ≤ sp.toInt ∧ sp.toInt ≤ 10000) : z_Ct lx yX6_flex (zT yX6_flex cX6_flex 9 (Option.none : Option FieldType)) ({ frames := 4, cells := 0, slots := 0, locals := 101 } : Room) g N I P J [.ref (g.1 95), .int (nI p), .int (nI fr), .int (nI z), .int (nI x), .int sp] (zflQ σ nat p wd x fr z sp I P J) 0 0 := by
  refine z_of (by decide) (Nat.le_of_ble_eq_true rfl) (lv0 := [(0, .ref (g.1 95)), (1, .int (nI p)), (2, .int (nI fr)), (3, .int (nI z)), (4, .int (nI x)), (5, .int sp)]) rfl ?_
  intro C hlx hC hE hRm
  have hC : zX C cX6_flex 9 RX6 (zT yX6_flex cX6_flex 9 (Option.none : Option FieldType)) g N := hC
  refine z_aload_n (pc := 0) hC 0 dX6_flex_0 rfl rfl z_isr_r ?_
  refine z_iload_n (pc := 1) hC 1 dX6_flex_1 rfl rfl ?_
  refine z_iload_n (pc := 2) hC 2 dX6_flex_2 rfl rfl ?_
  refine z_iload_n (pc := 3) hC 3 dX6_flex_3 rfl rfl ?_
  refine z_iload (pc := 4) hC 4 dX6_flex_4 rfl ?_
  refine z_iload (pc := 6) hC 5 dX6_flex_6 rfl ?_
  refine z_callV (pc := 8) (st := []) hC [.int (nI p), .int (nI fr), .int (nI z), .int (nI x), .int sp] (kX6_beginFlex C.2.1 g N I P J hm p he hk fr z x hfz hzk ha nat hn hb sp hsp) rfl (z_lt hC (by decide)) rfl zkX6_beginFlex zm_5_39 ⟨rfl, rfl⟩ rfl rfl hRm ⟨Nat.le_of_ble_eq_true rfl, Nat.le_of_ble_eq_true rfl⟩ (Nat.le_of_ble_eq_true rfl) ⟨Nat.zero_le _, Nat.zero_le _⟩ dX6_flex_8 ?_
  intro v I1 P1 J1 hq
  obtain ⟨hv, hP1, hb1⟩ := hq
  subst hv
  rw [hP1]
  have hm1 := hm.eq (fun k => hb1.1 96 k (by decide) (by omega))
  have hk1 : zKq σ p I1 := ⟨(hb1.1 95 5 (by decide) (by omega)).trans hk.1, fun k hkk => (hb1.1 99 k (by decide) (by omega)).trans (hk.2 k hkk)⟩
  have hkm := kn_le hm.1 p
  obtain ⟨it, hi0, hirng, hinz, histep, hiless, hiend⟩ := mIt hm.1 (fr := fr) (sp := sp) ha hb hzk wd hx
  have hz0 := zfl_0 hfz hb1
  rw [← hi0] at hz0
  show zJ C g N 9 0 0 I1 P J1 11 [(0, .ref (g.1 95)), (1, .int (nI p)), (2, .int (nI fr)), (3, .int (nI z)), (4, .int (nI x)), (5, .int sp)] [.int (zB (mGr σ nat p x fr z sp))]
  refine z_istore (pc := 11) (lv' := [(6, .int (zB (mGr σ nat p x fr z sp))), (0, .ref (g.1 95)), (1, .int (nI p)), (2, .int (nI fr)), (3, .int (nI z)), (4, .int (nI x)), (5, .int sp)]) hC dX6_flex_11 (by decide) rfl ?_
  refine z_iconst (pc := 13) (v := 0) hC dX6_flex_13 rfl ?_
  refine z_istore (pc := 14) (lv' := [(7, .int 0), (6, .int (zB (mGr σ nat p x fr z sp))), (0, .ref (g.1 95)), (1, .int (nI p)), (2, .int (nI fr)), (3, .int (nI z)), (4, .int (nI x)), (5, .int sp)]) hC dX6_flex_14 (by decide) rfl ?_
  refine z_iload_n (pc := 16) hC 4 dX6_flex_16 rfl rfl ?_
  refine z_istore (pc := 17) (lv' := [(8, .int (nI fr)), (7, .int 0), (6, .int (zB (mGr σ nat p x fr z sp))), (0, .ref (g.1 95)), (1, .int (nI p)), (2, .int (nI fr)), (3, .int (nI z)), (4, .int (nI x)), (5, .int sp)]) hC dX6_flex_17 (by decide) rfl ?_
  have L19 : ∀ (zf : Nat) (d : Nat) (hd : d ≤ z - fr), z - fr - d < zf → zJ C g N 9 0 0 I1 P J1 19 [(8, .int (nI (fr + d))), (7, .int (nI (zcn (mSt σ nat p x fr z sp) d))), (6, .int (zB (mGr σ nat p x fr z sp))), (0, .ref (g.1 95)), (1, .int (nI p)), (2, .int (nI fr)), (3, .int (nI z)), (4, .int (nI x)), (5, .int sp)] [] := by
    intro zf
    induction zf with
    | zero =>
      intro d hd hn2
      exact absurd hn2 (Nat.not_lt_zero _)
    | succ zf ih =>
      intro d hd hn2
      refine z_iload (pc := 19) hC 0 dX6_flex_19 rfl ?_
      refine z_iload_n (pc := 21) hC 6 dX6_flex_21 rfl rfl ?_
      refine z_icmp_ge (pc := 22) (tgt := 51) hC dX6_flex_22 (by decide) (fun h22 => ?_) (fun h22 => ?_)
      · skip
        have g22 := Int32.not_lt.mpr h22
        have hge := zc_ge h22 (by omega) (by omega)
        have ed : d = z - fr := by omega
        subst ed
        have L51 : ∀ (zf : Nat) (k : Nat) (Ir : Nat → Nat → Int32) (hz : zfl σ p x fr z (it k) I Ir), zcn (it k).2 (z - fr) < zf → zJ C g N 9 0 0 Ir P J1 51 [(7, .int (nI (zcn (it k).2 (z - fr)))), (6, .int (zB (mGr σ nat p x fr z sp))), (0, .ref (g.1 95)), (1, .int (nI p)), (2, .int (nI fr)), (3, .int (nI z)), (4, .int (nI x)), (5, .int sp)] [] := by
          intro zf
          induction zf with
          | zero =>
            intro k Ir hz hn2
            exact absurd hn2 (Nat.not_lt_zero _)
          | succ zf ih =>
            intro k Ir hz hn2
            have hmr := hm.eq (fun k => hz.1 96 k (by decide) (by decide) (by omega))
            have hkr : zKq σ p Ir := ⟨(hz.1 95 5 (by decide) (by decide) (by omega)).trans hk.1, fun k hkk => (hz.1 99 k (by decide) (by decide) (by omega)).trans (hk.2 k hkk)⟩
            have hnr : ∀ k, k ∈ sKids σ p → Ir 101 (2 * k + x) = nat k := fun k hkk => (hz.1 101 _ (by decide) (by decide) (by omega)).trans (hn k hkk)
            refine z_iload (pc := 51) hC 0 dX6_flex_51 rfl ?_
            refine z_if_le (pc := 53) (tgt := 82) hC dX6_flex_53 (by decide) (fun h53 => ?_) (fun h53 => ?_)
            · skip
              have g53 := Int32.not_lt.mpr h53
              have hzz : zcn (it k).2 (z - fr) ≤ 0 := zc_ge (i := 0) h53 (by decide) (by have := zcn_le (st := (it k).2) (n := z - fr); omega)
              exact z_vret (pc := 82) hC hE dX6_flex_82 ⟨rfl, rfl, hb1.2.1, hz.1, fun i h1 h2 => by have hv := (hz.2 (i - fr) (by omega)).2; rw [show fr + (i - fr) = i by omega] at hv; rw [hv]; exact hiend k (zcn_0 (Nat.le_zero.mp hzz)) i h1 h2⟩
            · skip
              have g53 := Int32.not_le.mp h53
              have hpos : 0 < zcn (it k).2 (z - fr) := zc_lt (i := 0) h53 (by decide) (by have := zcn_le (st := (it k).2) (n := z - fr); omega)
              have hop : ∃ j, j < z - fr ∧ (it k).2 j = false := Classical.byContradiction (fun q => by
                have e := zcn_z (st := (it k).2) (n := z - fr) (fun j hj => by
                  cases e : (it k).2 j with
                  | true => rfl
                  | false => exact absurd ⟨j, hj, e⟩ q)
                omega)
              refine z_aload_n (pc := 56) hC 2 dX6_flex_56 rfl rfl z_isr_r ?_
              refine z_iload_n (pc := 57) hC 3 dX6_flex_57 rfl rfl ?_
              refine z_iload_n (pc := 58) hC 4 dX6_flex_58 rfl rfl ?_
              refine z_iload_n (pc := 59) hC 5 dX6_flex_59 rfl rfl ?_
              refine z_iload (pc := 60) hC 6 dX6_flex_60 rfl ?_
              refine z_iload (pc := 62) hC 7 dX6_flex_62 rfl ?_
              refine z_iload (pc := 64) hC 1 dX6_flex_64 rfl ?_
              refine z_callV (pc := 66) (st := []) hC [.int (nI p), .int (nI fr), .int (nI z), .int (nI x), .int sp, .int (zB (mGr σ nat p x fr z sp))] (kX6_propose C.2.1 g N Ir P J1 hmr p he hkr fr z x hfz hzk ha nat hnr hb sp hsp (mGr σ nat p x fr z sp) (mFac σ nat p x fr z sp) (it k) (fun j hj => (hz.2 j hj).1) (fun j hj => (hz.2 j hj).2) (fun j hj => (hb1.2.2 j hj).1) (hirng k) (fun j hj => mFac_nn hm.1 ha hb hzk hj) (hinz k)) rfl (z_lt hC (by decide)) rfl zkX6_propose zm_5_43 ⟨rfl, rfl⟩ rfl rfl hRm ⟨Nat.le_of_ble_eq_true rfl, Nat.le_of_ble_eq_true rfl⟩ (Nat.le_of_ble_eq_true rfl) ⟨Nat.zero_le _, Nat.zero_le _⟩ dX6_flex_66 ?_
              intro v I2 P2 J2 hq
              obtain ⟨hv, hP2, hJ2, hp2⟩ := hq
              subst hv
              rw [hP2, hJ2]
              have hm2 := hmr.eq (fun k => hp2.1 96 k (by decide))
              have hk2 : zKq σ p I2 := ⟨(hp2.1 95 5 (by decide)).trans hkr.1, fun k hkk => (hp2.1 99 k (by decide)).trans (hkr.2 k hkk)⟩
              show zJ C g N 9 0 0 I2 P J1 69 [(7, .int (nI (zcn (it k).2 (z - fr)))), (6, .int (zB (mGr σ nat p x fr z sp))), (0, .ref (g.1 95)), (1, .int (nI p)), (2, .int (nI fr)), (3, .int (nI z)), (4, .int (nI x)), (5, .int sp)] []
              refine z_aload_n (pc := 69) hC 2 dX6_flex_69 rfl rfl z_isr_r ?_
              refine z_iload_n (pc := 70) hC 4 dX6_flex_70 rfl rfl ?_
              refine z_iload_n (pc := 71) hC 5 dX6_flex_71 rfl rfl ?_
              refine z_iload (pc := 72) hC 6 dX6_flex_72 rfl ?_
              refine z_callV (pc := 74) (st := []) hC [.int (nI fr), .int (nI z), .int (nI x)] (kX6_fixSome C.2.1 g N I2 P J1 hm2 p hk2 fr z x hfz hzk ha (it k) (fxP (mGr σ nat p x fr z sp) (fxAmt (mGr σ nat p x fr z sp) (fxRest (mRoom σ p fr z sp) (mB σ nat p fr) (it k).1 (it k).2 (z - fr))).toInt64 (fxOpen (mFac σ nat p x fr z sp) (it k).2 (z - fr)) (mB σ nat p fr) (mFac σ nat p x fr z sp) (it k).2) (fun j hj => (hp2.1 106 _ (by decide)).trans (hz.2 j hj).1) (fun j hj => (hp2.1 102 _ (by decide)).trans (hz.2 j hj).2) (fun j hj q => hp2.2 j hj q)) rfl (z_lt hC (by decide)) rfl zkX6_fixSome zm_5_47 ⟨rfl, rfl⟩ rfl rfl hRm ⟨Nat.le_of_ble_eq_true rfl, Nat.le_of_ble_eq_true rfl⟩ (Nat.le_of_ble_eq_true rfl) ⟨Nat.zero_le _, Nat.zero_le _⟩ dX6_flex_74 ?_
              intro v I3 P3 J3 hq
              rw [histep] at hq
              obtain ⟨hv, hP3, hJ3, hs3⟩ := hq
              subst hv
              rw [hP3, hJ3]
              show zJ C g N 9 0 0 I3 P J1 77 [(7, .int (nI (zcn (it k).2 (z - fr)))), (6, .int (zB (mGr σ nat p x fr z sp))), (0, .ref (g.1 95)), (1, .int (nI p)), (2, .int (nI fr)), (3, .int (nI z)), (4, .int (nI x)), (5, .int sp)] [.int (nI (zcn (it (k + 1)).2 (z - fr)))]
              refine z_istore (pc := 77) (lv' := [(7, .int (nI (zcn (it (k + 1)).2 (z - fr)))), (6, .int (zB (mGr σ nat p x fr z sp))), (0, .ref (g.1 95)), (1, .int (nI p)), (2, .int (nI fr)), (3, .int (nI z)), (4, .int (nI x)), (5, .int sp)]) hC dX6_flex_77 (by decide) rfl ?_
              refine z_goto (pc := 79) (tgt := 51) hC dX6_flex_79 (by decide) ?_
              exact ih (k + 1) I3 (zfl_s hfz hz hp2 hs3) (by have hl := hiless k hop; omega)
        refine z_lvs (lv' := [(7, .int (nI (zcn (mSt σ nat p x fr z sp) (z - fr)))), (6, .int (zB (mGr σ nat p x fr z sp))), (0, .ref (g.1 95)), (1, .int (nI p)), (2, .int (nI fr)), (3, .int (nI z)), (4, .int (nI x)), (5, .int sp)]) [1, 2, 3, 4, 5, 6, 7, 8] rfl ?_
        have KK := L51 (zcn (it 0).2 (z - fr) + 1) 0 I1 hz0 (Nat.lt_succ_self _)
        rw [show (it 0).2 = mSt σ nat p x fr z sp from congrArg Prod.snd hi0] at KK
        exact KK
      · skip
        have g22 := Int32.not_le.mp h22
        have hdz : fr + d < z := zc_lt h22 (by omega) (by omega)
        refine z_iload (pc := 25) hC 1 dX6_flex_25 rfl ?_
        refine z_aload_n (pc := 27) hC 3 dX6_flex_27 rfl rfl z_isr_r ?_
        refine z_gF (pc := 28) hC 6 12 (t := 106) rfl (z_lt hC (by decide)) rfl inX6 (by decide) rfl zm_4_85 rfl dX6_flex_28 ?_
        refine z_iload (pc := 31) hC 0 dX6_flex_31 rfl ?_
        refine z_zaN (pc := 33) hC (fr + d) (x := zB ((mSt σ nat p x fr z sp) d)) rfl (z_lt hC (by decide)) rfl (by omega) (by decide) (hb1.2.2 d (by omega)).2.1 dX6_flex_33 ?_
        refine z_if_eq (pc := 34) (tgt := 41) hC dX6_flex_34 (by decide) (fun h34 => ?_) (fun h34 => ?_)
        · skip
          have g34 := zB_f h34
          refine z_iconst (pc := 41) (v := 1) hC dX6_flex_41 rfl ?_
          refine z_iadd (pc := 42) hC dX6_flex_42 ?_
          refine z_eqI (show (nI (zcn (mSt σ nat p x fr z sp) d)) + 1 = nI (zcn (mSt σ nat p x fr z sp) (d + 1)) from by show _ = nI (zcn (mSt σ nat p x fr z sp) d + (if (mSt σ nat p x fr z sp) d = true then 0 else 1)); rw [g34]; exact nI_1 _) ?_
          refine z_istore (pc := 43) (lv' := [(7, .int (nI (zcn (mSt σ nat p x fr z sp) (d + 1)))), (8, .int (nI (fr + d))), (6, .int (zB (mGr σ nat p x fr z sp))), (0, .ref (g.1 95)), (1, .int (nI p)), (2, .int (nI fr)), (3, .int (nI z)), (4, .int (nI x)), (5, .int sp)]) hC dX6_flex_43 (by decide) rfl ?_
          refine z_iinc (pc := 45) (v := nI (fr + (d + 1))) (lv' := [(8, .int (nI (fr + (d + 1)))), (7, .int (nI (zcn (mSt σ nat p x fr z sp) (d + 1)))), (6, .int (zB (mGr σ nat p x fr z sp))), (0, .ref (g.1 95)), (1, .int (nI p)), (2, .int (nI fr)), (3, .int (nI z)), (4, .int (nI x)), (5, .int sp)]) hC 1 dX6_flex_45 rfl (nI_1 (fr + d)) (by decide) rfl ?_
          refine z_goto (pc := 48) (tgt := 19) hC dX6_flex_48 (by decide) ?_
          exact ih (d + 1) (by omega) (by omega)
        · skip
          have g34 := zB_t h34
          refine z_iconst (pc := 37) (v := 0) hC dX6_flex_37 rfl ?_
          refine z_goto (pc := 38) (tgt := 42) hC dX6_flex_38 (by decide) ?_
          refine z_iadd (pc := 42) hC dX6_flex_42 ?_
          refine z_eqI (show (nI (zcn (mSt σ nat p x fr z sp) d)) + 0 = nI (zcn (mSt σ nat p x fr z sp) (d + 1)) from by show _ = nI (zcn (mSt σ nat p x fr z sp) d + (if (mSt σ nat p x fr z sp) d = true then 0 else 1)); rw [g34]; exact Int32.add_zero _) ?_
          refine z_istore (pc := 43) (lv' := [(7, .int (nI (zcn (mSt σ nat p x fr z sp) (d + 1)))), (8, .int (nI (fr + d))), (6, .int (zB (mGr σ nat p x fr z sp))), (0, .ref (g.1 95)), (1, .int (nI p)), (2, .int (nI fr)), (3, .int (nI z)), (4, .int (nI x)), (5, .int sp)]) hC dX6_flex_43 (by decide) rfl ?_
          refine z_iinc (pc := 45) (v := nI (fr + (d + 1))) (lv' := [(8, .int (nI (fr + (d + 1)))), (7, .int (nI (zcn (mSt σ nat p x fr z sp) (d + 1)))), (6, .int (zB (mGr σ nat p x fr z sp))), (0, .ref (g.1 95)), (1, .int (nI p)), (2, .int (nI fr)), (3, .int (nI z)), (4, .int (nI x)), (5, .int sp)]) hC 1 dX6_flex_45 rfl (nI_1 (fr + d)) (by decide) rfl ?_
          refine z_goto (pc := 48) (tgt := 19) hC dX6_flex_48 (by decide) ?_
          exact ih (d + 1) (by omega) (by omega)
  exact L19 41 0 (Nat.zero_le _) (by omega)
end ZM17
