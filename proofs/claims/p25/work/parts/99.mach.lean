section ZMS
/-! THE MACHINE AT THE START -/
theorem zms_D {args : Array Value} {s : State} (ht : ∀ w ∈ zU, w.before args s = true) : ∃ D : va_G, ∀ (c : Nat) (q : vw_C), zCls[c]? = some q → u_Kn s q.1 q.2.1 q.2.2 (D.1 c) (D.2 c) := by
  obtain ⟨c0, i0, k0⟩ := u_known ht inX0 (ht _ zm_1_29)
  obtain ⟨c1, i1, k1⟩ := u_known ht inX1 (ht _ zm_1_154)
  obtain ⟨c2, i2, k2⟩ := u_known ht inX2 (ht _ zm_1_148)
  obtain ⟨c4, i4, k4⟩ := u_known ht inX4 (ht _ zm_1_22)
  obtain ⟨c5, i5, k5⟩ := u_known ht inX5 (ht _ zm_1_14)
  refine ⟨(fun c => if c = 0 then c0 else if c = 1 then c1 else if c = 2 then c2 else if c = 3 then c4 else if c = 4 then c4 else c5, fun c => if c = 0 then i0 else if c = 1 then i1 else if c = 2 then i2 else if c = 3 then i4 else if c = 4 then i4 else i5), fun c q hq => ?_⟩
  rcases c with _ | _ | _ | _ | _ | _ | c
  · cases hq; exact k0
  · cases hq; exact k1
  · cases hq; exact k2
  · cases hq; exact k4
  · cases hq; exact k4
  · cases hq; exact k5
  · cases hq
theorem zms_p {args : Array Value} {s : State} {ty : FieldType} (hr : ∀ c, va_RA s c ty ↔ s.vm.findClass ("[" ++ ty.toString) = some c) (h : (Cond.arrayClass ty).before args s = true) : ∃ c, ArrOfT s c ty ∧ va_RA s c ty := by
  obtain ⟨c, k, comp, h1, h2, h3⟩ := Cond.arrayClass_spec h
  exact ⟨c, fun n z => ⟨(fun k h => by cases h), k, h2, comp, h3⟩, (hr c).mpr h1⟩
theorem zms_o {args : Array Value} {s : State} {n : String} (h : (Cond.arrayOver (.object n)).before args s = true) : ∃ c, ArrOfT s c (.object n) ∧ va_RA s c (.object n) := by
  obtain ⟨comp, c, k, h1, -, h2, h3, h4⟩ := Cond.arrayOver_spec h
  exact ⟨c, fun n z => ⟨(fun k h => by cases h), k, h2, comp, h3⟩, k, comp, h2, h3, h1, h4⟩
end ZMS
section ZMS3
theorem zms_sz {args : Array Value} {s : State} {tm : Term} {a : Addr} {cell : Cell} {v : Value} (hev : tm.eval args s none [] s = some (.ref a)) (hat : s.arrayAt? a = some cell) (h : (Term.length tm).eval args s none [] s = some v) : cell.slots.size < 2 ^ 31 := by
  simp only [Term.eval, hev, hat, Option.bind_eq_bind, Option.bind_some] at h
  by_cases q : cell.slots.size < 2147483648
  · exact q
  · simp [q] at h
theorem zms_row {args : Array Value} {s : State} {A : Nat → Prop} (n : String) (f : Nat → Int32) (hl : (Cond.laysStatic "FlexibleBoxes" n "[I").before args s = true) (hini : (Cond.initialized "FlexibleBoxes").before args s = true) (ha : (Cond.arrayOf (.static "FlexibleBoxes" n "[I") .int).before args s = true) (hlen : (Cond.eq (.length (.static "FlexibleBoxes" n "[I")) (.int 20)).before args s = true) (hel : ∀ k, k < 20 → (Cond.eq (.elem (.static "FlexibleBoxes" n "[I") (.int (nI k))) (.int (f k))).before args s = true) (hA : ∀ a : Nat, a < s.heap.size → ¬ A a) : ∃ t, va_Z "FlexibleBoxes" n "[I" (.ref t) A s s.heap ∧ va_X t 20 f s s.heap ∧ t < s.heap.size := by
  have h20 := Cond.eq_int hlen rfl
  obtain ⟨a, cell, hev, hat, hsz⟩ := Term.length_spec h20
  obtain ⟨hcb, hkn, h3, h4⟩ := State.arrayAt?_spec hat
  have h31 := zms_sz hev hat h20
  have hs : cell.slots.size = 20 := by
    have e : (20 : Int32) = cell.slots.size.toInt32 := Value.int.inj hsz
    exact (nI_eq h31 (by decide)).mp e.symm
  refine ⟨a, va_Zref hl hini hev hA, ⟨cell, hcb, (Cond.arrayOf_spec ha hev hcb).1, hkn, hs, fun j hj => ?_⟩, (Array.getElem?_eq_some_iff.mp hcb).1⟩
  obtain ⟨a2, j2, cell2, hev2, hj2, hat2, -, hv⟩ := Term.elem_spec (Cond.eq_int (hel j hj) rfl)
  cases hev.symm.trans hev2
  cases hat.symm.trans hat2
  cases hj2
  rw [nI_clamp (by omega)] at hv
  exact hv
end ZMS3
section ZMS4
theorem zlt1 {w : Cond} (h : w ∈ tables_1_1) : w ∈ lw_tbl := List.mem_append_right _ (show w ∈ tables_1 from List.mem_append_left _ h)
theorem zlt2 {w : Cond} (h : w ∈ tables_1_2) : w ∈ lw_tbl := List.mem_append_right _ (show w ∈ tables_1 from List.mem_append_right _ (List.mem_append_left _ h))
theorem zlt3 {w : Cond} (h : w ∈ tables_1_3) : w ∈ lw_tbl := List.mem_append_right _ (show w ∈ tables_1 from List.mem_append_right _ (List.mem_append_right _ h))
theorem zms_r0 {args : Array Value} {s : State} {A : Nat → Prop} (hw : ∀ w ∈ lw_tbl, w.before args s = true) (hs : ∀ c ∈ flatC (Jvm.Cond.and given_1 narrow_1), c.before args s = true) (hA : ∀ a : Nat, a < s.heap.size → ¬ A a) : ∃ t, va_Z "FlexibleBoxes" "LEAST" "[I" (.ref t) A s s.heap ∧ va_X t 20 (z_st 0) s s.heap ∧ t < s.heap.size := by
  refine zms_row "LEAST" (z_st 0) (hw _ (zlt3 (List.mem_of_getElem? (i := 50) rfl))) (hw _ (zlt1 (List.mem_of_getElem? (i := 1) rfl))) (hs _ (by decide +kernel)) (hs _ (by decide +kernel)) (fun j hj => ?_) hA
  rcases (by omega : j = 0 ∨ j = 1 ∨ j = 2 ∨ j = 3 ∨ j = 4 ∨ j = 5 ∨ j = 6 ∨ j = 7 ∨ j = 8 ∨ j = 9 ∨ j = 10 ∨ j = 11 ∨ j = 12 ∨ j = 13 ∨ j = 14 ∨ j = 15 ∨ j = 16 ∨ j = 17 ∨ j = 18 ∨ j = 19) with rfl | rfl | rfl | rfl | rfl | rfl | rfl | rfl | rfl | rfl | rfl | rfl | rfl | rfl | rfl | rfl | rfl | rfl | rfl | rfl
  · exact hs _ (by decide +kernel)
  · exact hs _ (by decide +kernel)
  · exact hs _ (by decide +kernel)
  · exact hs _ (by decide +kernel)
  · exact hs _ (by decide +kernel)
  · exact hs _ (by decide +kernel)
  · exact hs _ (by decide +kernel)
  · exact hs _ (by decide +kernel)
  · exact hs _ (by decide +kernel)
  · exact hs _ (by decide +kernel)
  · exact hs _ (by decide +kernel)
  · exact hs _ (by decide +kernel)
  · exact hs _ (by decide +kernel)
  · exact hs _ (by decide +kernel)
  · exact hs _ (by decide +kernel)
  · exact hs _ (by decide +kernel)
  · exact hs _ (by decide +kernel)
  · exact hs _ (by decide +kernel)
  · exact hs _ (by decide +kernel)
  · exact hs _ (by decide +kernel)
theorem zms_r1 {args : Array Value} {s : State} {A : Nat → Prop} (hw : ∀ w ∈ lw_tbl, w.before args s = true) (hs : ∀ c ∈ flatC (Jvm.Cond.and given_1 narrow_1), c.before args s = true) (hA : ∀ a : Nat, a < s.heap.size → ¬ A a) : ∃ t, va_Z "FlexibleBoxes" "GREATEST" "[I" (.ref t) A s s.heap ∧ va_X t 20 (z_st 1) s s.heap ∧ t < s.heap.size := by
  refine zms_row "GREATEST" (z_st 1) (hw _ (zlt3 (List.mem_of_getElem? (i := 52) rfl))) (hw _ (zlt1 (List.mem_of_getElem? (i := 1) rfl))) (hs _ (by decide +kernel)) (hs _ (by decide +kernel)) (fun j hj => ?_) hA
  rcases (by omega : j = 0 ∨ j = 1 ∨ j = 2 ∨ j = 3 ∨ j = 4 ∨ j = 5 ∨ j = 6 ∨ j = 7 ∨ j = 8 ∨ j = 9 ∨ j = 10 ∨ j = 11 ∨ j = 12 ∨ j = 13 ∨ j = 14 ∨ j = 15 ∨ j = 16 ∨ j = 17 ∨ j = 18 ∨ j = 19) with rfl | rfl | rfl | rfl | rfl | rfl | rfl | rfl | rfl | rfl | rfl | rfl | rfl | rfl | rfl | rfl | rfl | rfl | rfl | rfl
  · exact hs _ (by decide +kernel)
  · exact hs _ (by decide +kernel)
  · exact hs _ (by decide +kernel)
  · exact hs _ (by decide +kernel)
  · exact hs _ (by decide +kernel)
  · exact hs _ (by decide +kernel)
  · exact hs _ (by decide +kernel)
  · exact hs _ (by decide +kernel)
  · exact hs _ (by decide +kernel)
  · exact hs _ (by decide +kernel)
  · exact hs _ (by decide +kernel)
  · exact hs _ (by decide +kernel)
  · exact hs _ (by decide +kernel)
  · exact hs _ (by decide +kernel)
  · exact hs _ (by decide +kernel)
  · exact hs _ (by decide +kernel)
  · exact hs _ (by decide +kernel)
  · exact hs _ (by decide +kernel)
  · exact hs _ (by decide +kernel)
  · exact hs _ (by decide +kernel)
theorem zms_r2 {args : Array Value} {s : State} {A : Nat → Prop} (hw : ∀ w ∈ lw_tbl, w.before args s = true) (hs : ∀ c ∈ flatC (Jvm.Cond.and given_1 narrow_1), c.before args s = true) (hA : ∀ a : Nat, a < s.heap.size → ¬ A a) : ∃ t, va_Z "FlexibleBoxes" "FIRST" "[I" (.ref t) A s s.heap ∧ va_X t 20 (z_st 2) s s.heap ∧ t < s.heap.size := by
  refine zms_row "FIRST" (z_st 2) (hw _ (zlt1 (List.mem_of_getElem? (i := 125) rfl))) (hw _ (zlt1 (List.mem_of_getElem? (i := 1) rfl))) (hs _ (by decide +kernel)) (hs _ (by decide +kernel)) (fun j hj => ?_) hA
  rcases (by omega : j = 0 ∨ j = 1 ∨ j = 2 ∨ j = 3 ∨ j = 4 ∨ j = 5 ∨ j = 6 ∨ j = 7 ∨ j = 8 ∨ j = 9 ∨ j = 10 ∨ j = 11 ∨ j = 12 ∨ j = 13 ∨ j = 14 ∨ j = 15 ∨ j = 16 ∨ j = 17 ∨ j = 18 ∨ j = 19) with rfl | rfl | rfl | rfl | rfl | rfl | rfl | rfl | rfl | rfl | rfl | rfl | rfl | rfl | rfl | rfl | rfl | rfl | rfl | rfl
  · exact hs _ (by decide +kernel)
  · exact hs _ (by decide +kernel)
  · exact hs _ (by decide +kernel)
  · exact hs _ (by decide +kernel)
  · exact hs _ (by decide +kernel)
  · exact hs _ (by decide +kernel)
  · exact hs _ (by decide +kernel)
  · exact hs _ (by decide +kernel)
  · exact hs _ (by decide +kernel)
  · exact hs _ (by decide +kernel)
  · exact hs _ (by decide +kernel)
  · exact hs _ (by decide +kernel)
  · exact hs _ (by decide +kernel)
  · exact hs _ (by decide +kernel)
  · exact hs _ (by decide +kernel)
  · exact hs _ (by decide +kernel)
  · exact hs _ (by decide +kernel)
  · exact hs _ (by decide +kernel)
  · exact hs _ (by decide +kernel)
  · exact hs _ (by decide +kernel)
theorem zms_str {args : Array Value} {s : State} {i : Nat} {tx c : String} (h1 : (Cond.stringRef "FlexibleBoxes" i tx).before args s = true) (h2 : (Cond.exactly (.string "FlexibleBoxes" i) c).before args s = true) : ∃ a, vk_R "FlexibleBoxes" i tx a s := by
  obtain ⟨a, -, -, -, ha, -⟩ := Cond.exactly_spec h2
  exact ⟨a, vk_R.of h1 ha⟩
theorem zms_tx {args : Array Value} {s : State} (hw : ∀ w ∈ lw_tbl, w.before args s = true) (hs : ∀ c ∈ flatC (Jvm.Cond.and given_1 narrow_1), c.before args s = true) : ∃ sa : Nat → Nat, ∀ (k : Nat) (q : Nat × String), zTx[k]? = some q → vk_R "FlexibleBoxes" q.1 q.2 (sa k) s := by
  refine Classical.axiomOfChoice (r := fun (k : Nat) (a : Nat) => ∀ q : Nat × String, zTx[k]? = some q → vk_R "FlexibleBoxes" q.1 q.2 a s) (fun k => ?_)
  rcases k with _ | _ | _ | _ | _ | _ | _ | k
  · obtain ⟨a, h⟩ := zms_str (i := 191) (tx := "no such box") (c := "java/lang/String") (hw _ (zlt2 (List.mem_of_getElem? (i := 30) rfl))) (hs _ (by decide +kernel))
    exact ⟨a, fun q hq => by cases hq; exact h⟩
  · obtain ⟨a, h⟩ := zms_str (i := 41) (tx := "39 boxes were added already") (c := "java/lang/String") (hw _ (zlt2 (List.mem_of_getElem? (i := 70) rfl))) (hs _ (by decide +kernel))
    exact ⟨a, fun q hq => by cases hq; exact h⟩
  · obtain ⟨a, h⟩ := zms_str (i := 95) (tx := "no such property") (c := "java/lang/String") (hw _ (zlt3 (List.mem_of_getElem? (i := 42) rfl))) (hs _ (by decide +kernel))
    exact ⟨a, fun q hq => by cases hq; exact h⟩
  · obtain ⟨a, h⟩ := zms_str (i := 104) (tx := "the value is out of its range") (c := "java/lang/String") (hw _ (zlt3 (List.mem_of_getElem? (i := 53) rfl))) (hs _ (by decide +kernel))
    exact ⟨a, fun q hq => by cases hq; exact h⟩
  · obtain ⟨a, h⟩ := zms_str (i := 117) (tx := "a viewport is 0 to 2000 wide and high") (c := "java/lang/String") (hw _ (zlt3 (List.mem_of_getElem? (i := 66) rfl))) (hs _ (by decide +kernel))
    exact ⟨a, fun q hq => by cases hq; exact h⟩
  · obtain ⟨a, h⟩ := zms_str (i := 197) (tx := "the box is hidden") (c := "java/lang/String") (hw _ (zlt3 (List.mem_of_getElem? (i := 75) rfl))) (hs _ (by decide +kernel))
    exact ⟨a, fun q hq => by cases hq; exact h⟩
  · obtain ⟨a, h⟩ := zms_str (i := 165) (tx := "n is 0 to 100") (c := "java/lang/String") (hw _ (zlt3 (List.mem_of_getElem? (i := 125) rfl))) (hs _ (by decide +kernel))
    exact ⟨a, fun q hq => by cases hq; exact h⟩
  · exact ⟨0, fun q hq => by cases hq⟩
theorem zms_kx {args : Array Value} {s : State} {g : zG} (hg : g.2.2.2.2 = s.heap.size) (hw : ∀ w ∈ lw_tbl, w.before args s = true) (hs : ∀ c ∈ flatC (Jvm.Cond.and given_1 narrow_1), c.before args s = true) : ∃ sa, z_KX g sa s := by
  have hA : ∀ a : Nat, a < s.heap.size → ¬ z_A g a := fun a h q => by
    have q2 : g.2.2.2.2 ≤ a := q
    omega
  obtain ⟨sa, hsa⟩ := zms_tx hw hs
  refine ⟨sa, ⟨vx_Zqof (hw _ (zlt2 (List.mem_of_getElem? (i := 16) rfl))) (hw _ (zlt1 (List.mem_of_getElem? (i := 6) rfl))) (hs _ (by decide +kernel)) hA, vx_Zqof (hw _ (zlt2 (List.mem_of_getElem? (i := 18) rfl))) (hw _ (zlt1 (List.mem_of_getElem? (i := 6) rfl))) (hs _ (by decide +kernel)) hA⟩, hsa, fun k hk => ?_, fun n hn => ?_⟩
  · rcases (by omega : k = 0 ∨ k = 1 ∨ k = 2) with rfl | rfl | rfl
    · exact va_Nw.of rfl (hw _ (zlt1 (List.mem_of_getElem? (i := 231) rfl)))
    · exact va_Nw.of rfl (hw _ (zlt2 (List.mem_of_getElem? (i := 63) rfl)))
    · exact va_Nw.of rfl (hw _ (zlt3 (List.mem_of_getElem? (i := 35) rfl)))
  · rcases (by omega : n = 0 ∨ n = 1 ∨ n = 2) with rfl | rfl | rfl
    · exact va_Nw.of rfl (hw _ (zlt1 (List.mem_of_getElem? (i := 233) rfl)))
    · exact va_Nw.of rfl (hw _ (zlt1 (List.mem_of_getElem? (i := 235) rfl)))
    · exact va_Nw.of rfl (hw _ (zlt1 (List.mem_of_getElem? (i := 237) rfl)))
theorem zms_g {args : Array Value} {s : State} (hw : ∀ w ∈ lw_tbl, w.before args s = true) (hs : ∀ c ∈ flatC (Jvm.Cond.and given_1 narrow_1), c.before args s = true) (hn : z_nest s) : ∃ g : zG, g.2.2.2.2 = s.heap.size ∧ z_K g s ∧ z_AOs g s := by
  obtain ⟨D, hD⟩ := zms_D (fun w h => hw w (zin_t h))
  obtain ⟨c0, a0, r0⟩ := zms_p (ty := .int) (fun c => Iff.rfl) (hw _ (zlt1 (List.mem_of_getElem? (i := 119) rfl)))
  obtain ⟨c1, a1, r1⟩ := zms_p (ty := .boolean) (fun c => Iff.rfl) (hw _ (zlt1 (List.mem_of_getElem? (i := 193) rfl)))
  obtain ⟨c3, a3, r3⟩ := zms_o (n := "FlexibleBoxes$Box") (hw _ (zlt1 (List.mem_of_getElem? (i := 28) rfl)))
  obtain ⟨c4, a4, r4⟩ := zms_o (n := "FlexibleBoxes$Snapshot") (hw _ (zlt1 (List.mem_of_getElem? (i := 206) rfl)))
  have hA : ∀ a : Nat, a < s.heap.size → ¬ s.heap.size ≤ a := fun a h => Nat.not_le.mpr h
  obtain ⟨t0, z0, x0, y0⟩ := zms_r0 (A := fun q => s.heap.size ≤ q) hw hs hA
  obtain ⟨t1, z1, x1, y1⟩ := zms_r1 (A := fun q => s.heap.size ≤ q) hw hs hA
  obtain ⟨t2, z2, x2, y2⟩ := zms_r2 (A := fun q => s.heap.size ≤ q) hw hs hA
  refine ⟨(fun i => i, D, (fun t => if t = 0 then c0 else if t = 1 then c1 else if t = 2 then c0 else if t = 3 then c3 else c4), (fun k => if k = 0 then t0 else if k = 1 then t1 else t2), s.heap.size), rfl, ⟨⟨hD, fun k q hq => ?_⟩, ⟨z0, x0, y0, hA _ y0⟩, ⟨z1, x1, y1, hA _ y1⟩, ⟨z2, x2, y2, hA _ y2⟩, hn⟩, va_AO.of (hw _ (zlt1 (List.mem_of_getElem? (i := 28) rfl))), va_AO.of (hw _ (zlt1 (List.mem_of_getElem? (i := 206) rfl)))⟩
  rcases k with _ | _ | _ | _ | _ | k
  · cases hq; exact ⟨a0, r0⟩
  · cases hq; exact ⟨a1, r1⟩
  · cases hq; exact ⟨a0, r0⟩
  · cases hq; exact ⟨a3, r3⟩
  · cases hq; exact ⟨a4, r4⟩
  · cases hq
end ZMS4
