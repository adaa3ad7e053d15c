section ZLP
theorem zand31 (x : Int32) : ∃ k, k < 32 ∧ x &&& 31 = nI k := by
  refine ⟨(x &&& 31).toBitVec.toNat, ?_, ?_⟩
  · have e : (x &&& 31).toBitVec = x.toBitVec &&& 31#32 := rfl
    rw [e, BitVec.toNat_and]
    exact Nat.lt_of_le_of_lt Nat.and_le_right (by decide)
  · apply Int32.toBitVec_inj.mp
    show _ = BitVec.ofNat 32 _
    rw [BitVec.ofNat_toNat, BitVec.setWidth_eq]
theorem zlen4 {i L : Nat} (hi : i ≤ L + 3) (hL : L ≤ 2048) : nI L - 4 < nI i ↔ ¬ i + 4 ≤ L := by
  have e1 : (nI L).toInt = (L : Int) := nI_toInt (by omega)
  have e2 : (nI i).toInt = (i : Int) := nI_toInt (by omega)
  have e4 : (4 : Int32).toInt = 4 := rfl
  have e3 : (nI L - 4).toInt = (L : Int) - 4 := by
    rw [Int32.toInt_sub, e1, e4, Int.bmod_eq_of_le (by omega) (by omega)]
  rw [zi_lt, e3, e2]
  omega
/-- the law's end, whatever it has made -/
def zLE (C : zC) (g : zG) : Prop := ∀ (H : Heap) (locs : List Loc) (ls : Array Slot) (kc ks : Nat), kc ≤ 601024 → ks ≤ 7293034 → va_S (z_A g) C.2.2.2.2.1.heap H locs → zWc C H locs kc ks (F0 C.2.2.2.2.2.1 1341 ls [.int 1])
set_option maxRecDepth 100000 in
theorem zLw_loop {C : zC} {sa : Nat → Nat} {b L : Nat} {xs : Nat → Int32} : ∀ (zf : Nat) (g : zG) (N i kc ks : Nat) (σ : zS) (τ : Nat → zS) (I : Nat → Nat → Int32) (P : Nat → Nat → Option Nat) (J : Nat → Nat → Int64), zLC C g sa N b L xs → zLE C g → zLI N σ τ I P → i ≤ L + 3 → L + 4 ≤ i + 4 * zf → kc + 50 * zf ≤ 601024 → ks + 1000 * zf ≤ 7293034 → zJ C g N 7 kc ks I P J 23 [(4, .int (nI i)), (0, .ref b), (1, .ref (g.1 80)), (2, .ref (g.1 95)), (3, .ref (g.1 110))] [] := by
  intro zf
  induction zf with
  | zero =>
    intro g N i kc ks σ τ I P J hLC hE hI hi hn
    omega
  | succ zf ih =>
    intro g N i kc ks σ τ I P J hLC hE hI hi hn hcb hsb
    obtain ⟨hC, hX, hNC, hAO, hst, hRm, hx, hbs, hA, hL⟩ := id hLC
    refine z_iload (pc := 23) hC 0 dL_law_23 rfl ?_
    refine z_aload_n (pc := 25) hC 1 dL_law_25 rfl rfl z_isr_r ?_
    refine z_scl (pc := 26) hC hx hbs hA dL_law_26 ?_
    refine z_iconst (pc := 27) (v := 4) hC dL_law_27 rfl ?_
    refine z_isub (pc := 28) hC dL_law_28 ?_
    refine z_icmp_gt (pc := 29) (tgt := 1340) hC dL_law_29 (by decide) (fun h29 => ?_) (fun h29 => ?_)
    · skip
      have g29 := Int32.not_le.mpr h29
      have h4 := (zlen4 hi hL).mp h29
      refine z_iconst (pc := 1340) (v := 1) hC dL_law_1340 rfl ?_
      exact fun H locs ls hP hS hl => hE H locs ls kc ks (by omega) (by omega) hS
    · skip
      have g29 := Int32.not_lt.mp h29
      have h4 : i + 4 ≤ L := Decidable.byContradiction fun q => h29 ((zlen4 hi hL).mpr q)
      refine z_aload_n (pc := 32) hC 1 dL_law_32 rfl rfl z_isr_r ?_
      refine z_iload (pc := 33) hC 0 dL_law_33 rfl ?_
      refine z_scr (pc := 35) hC hx hbs hA i rfl (by omega) (by omega) dL_law_35 ?_
      refine z_bipush (pc := 36) (v := 31) hC dL_law_36 rfl ?_
      refine z_iand (pc := 38) hC dL_law_38 ?_
      obtain ⟨k, hk, ek⟩ := zand31 (xs i)
      rw [ek]
      have hkk : zLK C g N kc ks b i := by
        intro f N1 σ1 τ1 I1 P1 J1 hG1 hf hN hI1
        have hC1 := hLC.to hG1
        have hgN := hC.2.2.2.2.2.2.1
        rw [← hf 80 (by omega), ← hf 95 (by omega), ← hf 110 (by omega)]
        refine z_iinc (g := (f, g.2)) (pc := 1334) (v := nI (i + 4)) (lv' := [(4, .int (nI (i + 4))), (0, .ref b), (1, .ref (f 80)), (2, .ref (f 95)), (3, .ref (f 110))]) hC1.1 0 dL_law_1334 rfl (nI_add i 4) (by decide) rfl ?_
        refine z_goto (g := (f, g.2)) (pc := 1337) (tgt := 23) hC1.1 dL_law_1337 (by decide) ?_
        exact ih (f, g.2) N1 (i + 4) (kc + 50) (ks + 1000) σ1 τ1 I1 P1 J1 hC1 hE hI1 (by omega) (by omega) (by omega) (by omega)
      have hcb2 : kc + 50 ≤ 601024 := by omega
      have hsb2 : ks + 1000 ≤ 7293034 := by omega
      clear ih hn hcb hsb
      rcases (by omega : k = 0 ∨ k = 1 ∨ k = 2 ∨ k = 3 ∨ k = 4 ∨ k = 5 ∨ k = 6 ∨ k = 7 ∨ k = 8 ∨ k = 9 ∨ k = 10 ∨ k = 11 ∨ k = 12 ∨ k = 13 ∨ k = 14 ∨ k = 15 ∨ k = 16 ∨ k = 17 ∨ k = 18 ∨ k = 19 ∨ k = 20 ∨ k = 21 ∨ 22 ≤ k) with rfl | rfl | rfl | rfl | rfl | rfl | rfl | rfl | rfl | rfl | rfl | rfl | rfl | rfl | rfl | rfl | rfl | rfl | rfl | rfl | rfl | rfl | hk22
      · skip
        refine z_tswK (pc := 39) (tgt := 140) hC dL_law_39 (by decide) (by decide) (by rfl) (by decide) ?_
        exact zLw_add hLC h4 hcb2 hsb2 hI hkk
      · skip
        refine z_tswK (pc := 39) (tgt := 196) hC dL_law_39 (by decide) (by decide) (by rfl) (by decide) ?_
        exact zLw_remove hLC h4 hcb2 hsb2 hI hkk
      · skip
        refine z_tswK (pc := 39) (tgt := 252) hC dL_law_39 (by decide) (by decide) (by rfl) (by decide) ?_
        exact zLw_boxes hLC h4 hcb2 hsb2 hI hkk
      · skip
        refine z_tswK (pc := 39) (tgt := 265) hC dL_law_39 (by decide) (by decide) (by rfl) (by decide) ?_
        exact zLw_parent hLC h4 hcb2 hsb2 hI hkk
      · skip
        refine z_tswK (pc := 39) (tgt := 321) hC dL_law_39 (by decide) (by decide) (by rfl) (by decide) ?_
        exact zLw_child hLC h4 hcb2 hsb2 hI hkk
      · skip
        refine z_tswK (pc := 39) (tgt := 389) hC dL_law_39 (by decide) (by decide) (by rfl) (by decide) ?_
        exact zLw_set hLC h4 hcb2 hsb2 hI hkk
      · skip
        refine z_tswK (pc := 39) (tgt := 469) hC dL_law_39 (by decide) (by decide) (by rfl) (by decide) ?_
        exact zLw_get hLC h4 hcb2 hsb2 hI hkk
      · skip
        refine z_tswK (pc := 39) (tgt := 537) hC dL_law_39 (by decide) (by decide) (by rfl) (by decide) ?_
        exact zLw_copyStyle hLC h4 hcb2 hsb2 hI hkk
      · skip
        refine z_tswK (pc := 39) (tgt := 605) hC dL_law_39 (by decide) (by decide) (by rfl) (by decide) ?_
        exact zLw_viewport hLC h4 hcb2 hsb2 hI hkk
      · skip
        refine z_tswK (pc := 39) (tgt := 653) hC dL_law_39 (by decide) (by decide) (by rfl) (by decide) ?_
        exact zLw_x hLC h4 hcb2 hsb2 hI hkk
      · skip
        refine z_tswK (pc := 39) (tgt := 709) hC dL_law_39 (by decide) (by decide) (by rfl) (by decide) ?_
        exact zLw_y hLC h4 hcb2 hsb2 hI hkk
      · skip
        refine z_tswK (pc := 39) (tgt := 765) hC dL_law_39 (by decide) (by decide) (by rfl) (by decide) ?_
        exact zLw_width hLC h4 hcb2 hsb2 hI hkk
      · skip
        refine z_tswK (pc := 39) (tgt := 821) hC dL_law_39 (by decide) (by decide) (by rfl) (by decide) ?_
        exact zLw_height hLC h4 hcb2 hsb2 hI hkk
      · skip
        refine z_tswK (pc := 39) (tgt := 877) hC dL_law_39 (by decide) (by decide) (by rfl) (by decide) ?_
        exact zLw_naturalWidth hLC h4 hcb2 hsb2 hI hkk
      · skip
        refine z_tswK (pc := 39) (tgt := 933) hC dL_law_39 (by decide) (by decide) (by rfl) (by decide) ?_
        exact zLw_naturalHeight hLC h4 hcb2 hsb2 hI hkk
      · skip
        refine z_tswK (pc := 39) (tgt := 989) hC dL_law_39 (by decide) (by decide) (by rfl) (by decide) ?_
        exact zLw_lines hLC h4 hcb2 hsb2 hI hkk
      · skip
        refine z_tswK (pc := 39) (tgt := 1045) hC dL_law_39 (by decide) (by decide) (by rfl) (by decide) ?_
        exact zLw_lineOf hLC h4 hcb2 hsb2 hI hkk
      · skip
        refine z_tswK (pc := 39) (tgt := 1101) hC dL_law_39 (by decide) (by decide) (by rfl) (by decide) ?_
        exact zLw_overflow hLC h4 hcb2 hsb2 hI hkk
      · skip
        refine z_tswK (pc := 39) (tgt := 1157) hC dL_law_39 (by decide) (by decide) (by rfl) (by decide) ?_
        exact zLw_hit hLC h4 hcb2 hsb2 hI hkk
      · skip
        refine z_tswK (pc := 39) (tgt := 1194) hC dL_law_39 (by decide) (by decide) (by rfl) (by decide) ?_
        exact zLw_widthFor hLC h4 hcb2 hsb2 hI hkk
      · skip
        refine z_tswK (pc := 39) (tgt := 1262) hC dL_law_39 (by decide) (by decide) (by rfl) (by decide) ?_
        exact zLw_save hLC h4 hcb2 hsb2 hI hkk
      · skip
        refine z_tswK (pc := 39) (tgt := 1298) hC dL_law_39 (by decide) (by decide) (by rfl) (by decide) ?_
        exact zLw_restore hLC h4 hcb2 hsb2 hI hkk
      · skip
        have e2 : (nI k).toInt = (k : Int) := nI_toInt (by omega)
        refine z_tswD (pc := 39) (tgt := 1334) hC dL_law_39 (Or.inr (by rw [e2]; omega)) (by decide) ?_
        refine z_widen (k := kc + 50) (n := ks + 1000) (by omega) (by omega) ?_
        exact hkk g.1 N σ τ I P J hC.2.2.2.2.2.2 (fun _ _ => rfl) (Nat.le_refl _) hI
end ZLP
