section ZLM1
/-! what the law calls, with arguments that are allowed -/
def zw0 : Cond := Cond.instanceMethod objectInit
def zLW (C : zC) (g : zG) (sa : Nat → Nat) (N b L : Nat) (xs : Nat → Int32) : Prop := zX C cL_law 24 RL (zw0 :: zU) g N ∧ z_KX g sa C.2.2.2.2.1 ∧ C.2.1.stackTraces = false ∧ C.2.2.2.1 = room_1 ∧ va_X b L xs C.2.2.2.2.1 C.2.2.2.2.1.heap ∧ b < C.2.2.2.2.1.heap.size ∧ ¬ z_A g b ∧ L ≤ 260
variable {C : zC} {g : zG} {sa : Nat → Nat} {N : Nat} {I : Nat → Nat → Int32} {P : Nat → Nat → Option Nat} {J : Nat → Nat → Int64} {pc : Nat} {lv : List (Nat × Value)} {st : List Value} {cells slots b L : Nat} {xs : Nat → Int32} {σ : zS}
theorem nI_one {a c : Nat} (ha : a < 40) (hc : c < 40) (h : nI a = nI c) : a = c := (nI_eq (by omega) (by omega)).mp h
/-- a method that asks for a box's layout -/
theorem zr_get (hW : zLW C g sa N b L xs) (hc : zCl σ I P) {y : MethodName} {bytes : ByteArray} {maxL index : Nat} {f : Nat → Int32} (bx : Nat) {x r : Int32} (hx : x = nI bx) (hM : z_CtX C.2.1 y (zT y bytes maxL (Option.some FieldType.int)) ({ frames := 7, cells := 2, slots := 12, locals := 184 } : Room) g sa N I P J [.ref (g.1 80), .int x] (zGt σ x f I P J) (zXp σ I P J (fun E => zc0 σ x E ∨ zc1 σ x E)) 2 12) (hp : z_pkV y bytes maxL (Option.some FieldType.int) RX5 1) (hl : Cond.methodLink RL index y ∈ zU) (hm : maxL ≤ 10) (hs : sSh σ bx = true) (hr : f bx = r) (hcs : cells + 2 ≤ 600130 ∧ slots + 12 ≤ 7301080) (hWs : (st.map fun v => v.category).sum ≤ 8) (hdg : decode cL_law pc = .ok (.invokevirtual index, 3))
    (kk : ∀ I' P' J', zCl σ I' P' → zKp I P J I' P' J' → zJ C g N 24 (cells + 2) (slots + 12) I' P' J' (pc + 3) lv (.int r :: st)) : zJ C g N 24 cells slots I P J pc lv (.int x :: .ref (g.1 80) :: st) := by
  obtain ⟨hC, hX, hst, hRm, _⟩ := hW
  have hex := sSh_ex hc.1.1 hs
  refine z_callVN (st := st) (pc := pc) hC hX [.int x] hM rfl (z_lt hC (by decide)) rfl hp hl ⟨rfl, rfl⟩ rfl rfl hRm ⟨Nat.le_of_ble_eq_true rfl, by show 8 + (maxL + 11) + 184 ≤ 414; omega⟩ hWs hcs hdg (fun E I' P' J' h => ?_) (fun v I' P' J' h => ?_)
  · rcases h.1 with q | q
    · exact q.2 ⟨bx, hx, hex.1, hex.2⟩
    · obtain ⟨_, b2, e, hb2, _, hs2⟩ := q
      have e2 := nI_one hex.1 hb2 (hx.symm.trans e)
      rw [← e2, hs] at hs2
      cases hs2
  · obtain ⟨⟨b2, e, hs2, hv⟩, hc', hk⟩ := h
    have e2 := nI_one hex.1 (sSh_ex hc.1.1 hs2).1 (hx.symm.trans e)
    subst hv
    rw [← e2, hr]
    exact kk I' P' J' hc' hk
theorem zr_set (hW : zLW C g sa N b L xs) (hc : zCl σ I P) (bx k : Nat) {x q v r : Int32} (hx : x = nI bx) (hq : q = nI k) (hb : bx < 40) (he : sEx σ bx = true) (hk : k < 20) (hv : z_st 0 k ≤ v ∧ v ≤ z_st 1 k) (hr : sSt σ bx k = r) (hcs : cells + 2 ≤ 600130 ∧ slots + 12 ≤ 7301080) (hWs : (st.map fun v => v.category).sum ≤ 8) (hdg : decode cL_law pc = .ok (.invokevirtual 21, 3))
    (kk : ∀ I' P' J', zCl (sSet σ bx k v) I' P' → zKp I P J I' P' J' → zJ C g N 24 (cells + 2) (slots + 12) I' P' J' (pc + 3) lv (.int r :: st)) : zJ C g N 24 cells slots I P J pc lv (.int v :: .int q :: .int x :: .ref (g.1 80) :: st) := by
  obtain ⟨hC, hX, hst, hRm, _⟩ := hW
  refine z_callVN (st := st) (pc := pc) hC hX [.int x, .int q, .int v] (kX5_set C.2.1 hst g sa N I P J hc x q v) rfl (z_lt hC (by decide)) rfl zkX5_set zm_3_26 ⟨rfl, rfl⟩ rfl rfl hRm ⟨Nat.le_of_ble_eq_true rfl, Nat.le_of_ble_eq_true rfl⟩ hWs hcs hdg (fun E I' P' J' h => ?_) (fun v' I' P' J' h => ?_)
  · rcases h.1 with z | z
    · exact z.2 ⟨bx, hx, hb, he⟩
    · exact z.2.2 ⟨k, hq, hk, hv⟩
  · obtain ⟨⟨b2, k2, e, e', hb2, _, hk2, _, hr2, hc'⟩, hk⟩ := h
    have e2 := nI_one hb hb2 (hx.symm.trans e)
    have e3 := nI_one (show k < 40 by omega) (show k2 < 40 by omega) (hq.symm.trans e')
    subst hr2
    rw [← e2, ← e3] at hc'
    rw [← e2, ← e3, hr]
    exact kk I' P' J' hc' hk
theorem zr_add (hW : zLW C g sa N b L xs) (hc : zCl σ I P) {x r : Int32} (hx : x = nI 0) (he : sEx σ 0 = true) (hg : sGv σ < 40) (hr : nI (sGv σ) = r) (hcs : cells + 2 ≤ 600130 ∧ slots + 12 ≤ 7301080) (hWs : (st.map fun v => v.category).sum ≤ 8) (hdg : decode cL_law pc = .ok (.invokevirtual 25, 3))
    (kk : ∀ I' P' J', zCl (sAdd σ 0) I' P' → zKp I P J I' P' J' → zJ C g N 24 (cells + 2) (slots + 12) I' P' J' (pc + 3) lv (.int r :: st)) : zJ C g N 24 cells slots I P J pc lv (.int x :: .ref (g.1 80) :: st) := by
  obtain ⟨hC, hX, hst, hRm, _⟩ := hW
  refine z_callVN (st := st) (pc := pc) hC hX [.int x] (kX5_add C.2.1 hst g sa N I P J hc x) rfl (z_lt hC (by decide)) rfl zkX5_add zm_1_217 ⟨rfl, rfl⟩ rfl rfl hRm ⟨Nat.le_of_ble_eq_true rfl, Nat.le_of_ble_eq_true rfl⟩ hWs hcs hdg (fun E I' P' J' h => ?_) (fun v' I' P' J' h => ?_)
  · rcases h.1 with z | z
    · exact z.2 ⟨0, hx, by decide, he⟩
    · have := z.2.2
      omega
  · obtain ⟨⟨b2, e, hb2, _, _, hr2, hc'⟩, hk⟩ := h
    have e2 := nI_one (show 0 < 40 by decide) hb2 (hx.symm.trans e)
    subst hr2
    rw [← e2] at hc'
    rw [hr]
    exact kk I' P' J' hc' hk
theorem zr_vp (hW : zLW C g sa N b L xs) (hc : zCl σ I P) {x y : Int32} (hx : 0 ≤ x ∧ x ≤ 2000) (hy : 0 ≤ y ∧ y ≤ 2000) (hcs : cells + 1 ≤ 600130 ∧ slots + 6 ≤ 7301080) (hWs : (st.map fun v => v.category).sum ≤ 8) (hdg : decode cL_law pc = .ok (.invokevirtual 17, 3))
    (kk : ∀ I' P' J', zCl (sVp σ x y) I' P' → zKp I P J I' P' J' → zJ C g N 24 (cells + 1) (slots + 6) I' P' J' (pc + 3) lv st) : zJ C g N 24 cells slots I P J pc lv (.int y :: .int x :: .ref (g.1 80) :: st) := by
  obtain ⟨hC, hX, hst, hRm, _⟩ := hW
  refine z_callVN (st := st) (pc := pc) hC hX [.int x, .int y] (kX5_viewport C.2.1 hst g sa N I P J hc x y) rfl (z_lt hC (by decide)) rfl zkX5_viewport zm_3_59 ⟨rfl, rfl⟩ rfl rfl hRm ⟨Nat.le_of_ble_eq_true rfl, Nat.le_of_ble_eq_true rfl⟩ hWs hcs hdg (fun E I' P' J' h => ?_) (fun v' I' P' J' h => ?_)
  · exact h.1.2 ⟨hx, hy⟩
  · obtain ⟨_, hv, hc', hk⟩ := h
    subst hv
    exact kk I' P' J' hc' hk
theorem zr_wf (hW : zLW C g sa N b L xs) (hc : zCl σ I P) {x n r : Int32} (hx : x = nI 0) (hn : 0 ≤ n ∧ n ≤ 100) (hr : sWf σ 0 n = r) (hcs : cells + 3 ≤ 600130 ∧ slots + 18 ≤ 7301080) (hWs : (st.map fun v => v.category).sum ≤ 8) (hdg : decode cL_law pc = .ok (.invokevirtual 50, 3))
    (kk : ∀ I' P' J', zCl σ I' P' → zKp I P J I' P' J' → zJ C g N 24 (cells + 3) (slots + 18) I' P' J' (pc + 3) lv (.int r :: st)) : zJ C g N 24 cells slots I P J pc lv (.int n :: .int x :: .ref (g.1 80) :: st) := by
  obtain ⟨hC, hX, hst, hRm, _⟩ := hW
  have he : sEx σ 0 = true := (sSh_ex hc.1.1 sSh_0).2
  refine z_callVN (st := st) (pc := pc) hC hX [.int x, .int n] (kX5_widthFor C.2.1 hst g sa N I P J hc x n) rfl (z_lt hC (by decide)) rfl zkX5_widthFor zm_3_121 ⟨rfl, rfl⟩ rfl rfl hRm ⟨Nat.le_of_ble_eq_true rfl, Nat.le_of_ble_eq_true rfl⟩ hWs hcs hdg (fun E I' P' J' h => ?_) (fun v' I' P' J' h => ?_)
  · rcases h.1 with z | z | z
    · exact z.2 ⟨0, hx, by decide, he⟩
    · exact z.2.2 hn
    · obtain ⟨⟨_, b2, e, hb2, _, hs2⟩, _⟩ := z
      have e2 := nI_one (show 0 < 40 by decide) hb2 (hx.symm.trans e)
      rw [← e2, sSh_0] at hs2
      cases hs2
  · obtain ⟨⟨b2, e, hs2, _, hr2⟩, hc', hk⟩ := h
    have e2 := nI_one (show 0 < 40 by decide) (sSh_ex hc.1.1 hs2).1 (hx.symm.trans e)
    subst hr2
    rw [← e2, hr]
    exact kk I' P' J' hc' hk
theorem zr_ch (hW : zLW C g sa N b L xs) (hc : zCl σ I P) {x i r : Int32} (hx : x = nI 0) (hr : sChl σ 0 i = r) (hcs : cells + 1 ≤ 600130 ∧ slots + 6 ≤ 7301080) (hWs : (st.map fun v => v.category).sum ≤ 8) (hdg : decode cL_law pc = .ok (.invokevirtual 60, 3))
    (kk : ∀ I' P' J', zCl σ I' P' → zKp I P J I' P' J' → zJ C g N 24 (cells + 1) (slots + 6) I' P' J' (pc + 3) lv (.int r :: st)) : zJ C g N 24 cells slots I P J pc lv (.int i :: .int x :: .ref (g.1 80) :: st) := by
  obtain ⟨hC, hX, hst, hRm, _⟩ := hW
  have he : sEx σ 0 = true := (sSh_ex hc.1.1 sSh_0).2
  refine z_callVN (st := st) (pc := pc) hC hX [.int x, .int i] (kX5_child C.2.1 hst g sa N I P J hc x i) rfl (z_lt hC (by decide)) rfl zkX5_child zm_2_82 ⟨rfl, rfl⟩ rfl rfl hRm ⟨Nat.le_of_ble_eq_true rfl, Nat.le_of_ble_eq_true rfl⟩ hWs hcs hdg (fun E I' P' J' h => ?_) (fun v' I' P' J' h => ?_)
  · exact h.1.2 ⟨0, hx, by decide, he⟩
  · obtain ⟨⟨b2, e, hb2, _, hr2⟩, hc', hk⟩ := h
    have e2 := nI_one (show 0 < 40 by decide) hb2 (hx.symm.trans e)
    subst hr2
    rw [← e2, hr]
    exact kk I' P' J' hc' hk
theorem zr_hit (hW : zLW C g sa N b L xs) (hc : zCl σ I P) {x y : Int32} (hcs : cells + 0 ≤ 600130 ∧ slots + 0 ≤ 7301080) (hWs : (st.map fun v => v.category).sum ≤ 8) (hdg : decode cL_law pc = .ok (.invokevirtual 54, 3))
    (kk : ∀ I' P' J', zCl σ I' P' → zKp I P J I' P' J' → zJ C g N 24 cells slots I' P' J' (pc + 3) lv (.int (sHit σ x y) :: st)) : zJ C g N 24 cells slots I P J pc lv (.int y :: .int x :: .ref (g.1 80) :: st) := by
  obtain ⟨hC, hX, hst, hRm, _⟩ := hW
  refine z_callV (st := st) (pc := pc) hC [.int x, .int y] (kX5_hit C.2.1 g N I P J hc x y) rfl (z_lt hC (by decide)) rfl zkX5_hit zm_3_106 ⟨rfl, rfl⟩ rfl rfl hRm ⟨Nat.le_of_ble_eq_true rfl, Nat.le_of_ble_eq_true rfl⟩ hWs hcs hdg (fun v' I' P' J' h => ?_)
  obtain ⟨hv, hc', hk⟩ := h
  subst hv
  exact kk I' P' J' hc' hk
end ZLM1
