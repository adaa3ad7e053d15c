section ZMS
/-! THE MACHINE AT THE START -/
theorem zms_D {args : Array Value} {s : State} (ht : ∀ w ∈ zU, w.before args s = true) : ∃ D : va_G, ∀ (c : Nat) (q : vw_C), vwCl[c]? = some q → u_Kn s q.1 q.2.1 q.2.2 (D.1 c) (D.2 c) := by
  obtain ⟨c0, i0, k0⟩ := u_known ht inX0 (ht _ zm_1_32)
  obtain ⟨c1, i1, k1⟩ := u_known ht inX1 (ht _ zm_1_160)
  obtain ⟨c2, i2, k2⟩ := u_known ht inX2 (ht _ zm_1_154)
  obtain ⟨c3, i3, k3⟩ := u_known ht inX3 (ht _ zm_4_11)
  obtain ⟨c4, i4, k4⟩ := u_known ht inX4 (ht _ zm_1_25)
  obtain ⟨c5, i5, k5⟩ := u_known ht inX5 (ht _ zm_1_17)
  obtain ⟨c6, i6, k6⟩ := u_known ht inX6 (ht _ zm_4_61)
  refine ⟨(fun c => if c = 0 then c0 else if c = 1 then c1 else if c = 2 then c2 else if c = 3 then c3 else if c = 4 then c4 else if c = 5 then c5 else c6, fun c => if c = 0 then i0 else if c = 1 then i1 else if c = 2 then i2 else if c = 3 then i3 else if c = 4 then i4 else if c = 5 then i5 else i6), fun c q hq => ?_⟩
  rcases c with _ | _ | _ | _ | _ | _ | _ | c
  · cases hq; exact k0
  · cases hq; exact k1
  · cases hq; exact k2
  · cases hq; exact k3
  · cases hq; exact k4
  · cases hq; exact k5
  · cases hq; exact k6
  · cases hq
theorem zms_p {args : Array Value} {s : State} {ty : FieldType} (hr : ∀ c, va_RA s c ty ↔ s.vm.findClass ("[" ++ ty.toString) = some c) (h : (Cond.arrayClass ty).before args s = true) : ∃ c, ArrOfT s c ty ∧ va_RA s c ty := by
  obtain ⟨c, k, comp, h1, h2, h3⟩ := Cond.arrayClass_spec h
  exact ⟨c, fun n z => ⟨(fun k h => by cases h), k, h2, comp, h3⟩, (hr c).mpr h1⟩
theorem zms_o {args : Array Value} {s : State} {n : String} (h : (Cond.arrayOver (.object n)).before args s = true) : ∃ c, ArrOfT s c (.object n) ∧ va_RA s c (.object n) := by
  obtain ⟨comp, c, k, h1, -, h2, h3, h4⟩ := Cond.arrayOver_spec h
  exact ⟨c, fun n z => ⟨(fun k h => by cases h), k, h2, comp, h3⟩, k, comp, h2, h3, h1, h4⟩
end ZMS
section ZMS2
theorem zms_a {args : Array Value} {s : State} (h : (Cond.arrayOver (.array .int)).before args s = true) : ∃ comp c k, s.vm.findClass "[I" = some comp ∧ s.vm.classes[c]? = some k ∧ k.kind = .array comp (.array .int) ∧ s.vm.findClass ("[" ++ (FieldType.array .int).toString) = some c := by
  simp only [Cond.before, Cond.holds, Cond.value, beq_iff_eq, Option.bind_eq_some_iff, Option.map_eq_some_iff] at h
  obtain ⟨comp, hc, c, hi, k, hk, hb⟩ := h
  obtain ⟨hlt, hp, -⟩ := Array.findIdx?_eq_some_iff_getElem.mp hi
  have e : s.vm.classes[c] = k := (Array.getElem?_eq_some_iff.mp hk).2
  rw [e] at hp
  cases hkd : k.kind with
  | array comp2 ty =>
    rw [hkd] at hb hp
    simp at hb hp
    exact ⟨comp, c, k, hc, hk, by rw [hkd, hp, hb.1], hb.2⟩
  | _ =>
    rw [hkd] at hb
    simp at hb
end ZMS2
section ZMS3
theorem zms_sz {args : Array Value} {s : State} {tm : Term} {a : Addr} {cell : Cell} {v : Value} (hev : tm.eval args s none [] s = some (.ref a)) (hat : s.arrayAt? a = some cell) (h : (Term.length tm).eval args s none [] s = some v) : cell.slots.size < 2 ^ 31 := by
  simp only [Term.eval, hev, hat, Option.bind_eq_bind, Option.bind_some] at h
  by_cases q : cell.slots.size < 2147483648
  · exact q
  · simp [q] at h
theorem zms_row {args : Array Value} {s : State} {A : Nat → Prop} (n : String) (f : Nat → Int32) (hl : (Cond.laysStatic "FlexibleBoxes" n "[I").before args s = true) (hini : (Cond.initialized "FlexibleBoxes").before args s = true) (ha : (Cond.arrayOf (.static "FlexibleBoxes" n "[I") .int).before args s = true) (hlen : (Cond.eq (.length (.static "FlexibleBoxes" n "[I")) (.int 20)).before args s = true) (hel : ∀ k, k < 20 → (Cond.eq (.elem (.static "FlexibleBoxes" n "[I") (.int (nI k))) (.int (f k))).before args s = true) (hA : ∀ a : Nat, a < s.heap.size → ¬ A a) : ∃ t, va_Z "FlexibleBoxes" n "[I" (.ref t) A s s.heap ∧ va_X t 20 f s s.heap ∧ t < s.heap.size := by
  have h20 := Cond.eq_int hlen rfl
  obtain ⟨a, cell, hev, hat, hsz⟩ := Term.length_spec h20
  obtain ⟨hcb, hkn, h3, h4⟩ := State.arrayAt?_spec hat
  have h31 := zms_sz hev hat h20
  have hs : cell.slots.size = 20 := by
    have e : (20 : Int32) = cell.slots.size.toInt32 := Value.int.inj hsz
    exact (nI_eq h31 (by decide)).mp e.symm
  refine ⟨a, va_Zref hl hini hev hA, ⟨cell, hcb, (Cond.arrayOf_spec ha hev hcb).1, hkn, hs, fun j hj => ?_⟩, (Array.getElem?_eq_some_iff.mp hcb).1⟩
  obtain ⟨a2, j2, cell2, hev2, hj2, hat2, -, hv⟩ := Term.elem_spec (Cond.eq_int (hel j hj) rfl)
  cases hev.symm.trans hev2
  cases hat.symm.trans hat2
  cases hj2
  rw [nI_clamp (by omega)] at hv
  exact hv
end ZMS3
