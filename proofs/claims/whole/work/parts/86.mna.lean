section ZMN
/-! new int[40][20]: the outer array and its forty rows, one cell behind the other -/
/-- what the outer array holds when i rows are made -/
def zMr (h i : Nat) : Nat → Value := fun j => if j < i then .ref (h + 1 + j) else .null
/-- the state when i rows are made -/
def zQf (S : State) (cA cI : ClassId) (n k : Nat) : Nat → State
  | 0 => S.pushCell (arrV cA n (zMr S.heap.size 0))
  | i + 1 => ((zQf S cA cI n k i).pushCell (arrV cI k (fun _ => .int 0))).setCell S.heap.size (arrV cA n (zMr S.heap.size (i + 1)))
theorem zMr_s (h i : Nat) : updV (zMr h i) i (.ref (h + 1 + i)) = zMr h (i + 1) := by
  funext j
  unfold updV zMr
  by_cases e : j = i
  · rw [if_pos e, if_pos (by omega), e]
  · rw [if_neg e]
    by_cases q : j < i
    · rw [if_pos q, if_pos (by omega)]
    · rw [if_neg q, if_neg (by omega)]
theorem zQf_f (S : State) (cA cI : ClassId) (n k : Nat) : ∀ i, (zQf S cA cI n k i).heap.size = S.heap.size + 1 + i ∧ (zQf S cA cI n k i).heap[S.heap.size]? = some (arrV cA n (zMr S.heap.size i)) ∧ (zQf S cA cI n k i).vm = S.vm ∧ (zQf S cA cI n k i).slotsUsed = S.slotsUsed + n + i * k ∧ (∀ a, a < S.heap.size → (zQf S cA cI n k i).heap[a]? = S.heap[a]?) ∧ ∀ j, j < i → (zQf S cA cI n k i).heap[S.heap.size + 1 + j]? = some (arrV cI k (fun _ => .int 0)) := by
  intro i
  induction i with
  | zero =>
    refine ⟨by simp [zQf], State.heap_pushCell_size _ _, rfl, ?_, fun a ha => State.heap_pushCell_of_lt _ _ ha, fun j hj => absurd hj (Nat.not_lt_zero _)⟩
    show S.slotsUsed + (arrV cA n (zMr S.heap.size 0)).slots.size = _
    rw [arrV_size, Nat.zero_mul]
    rfl
  | succ i ih =>
    obtain ⟨h1, h2, h3, h4, h5, h6⟩ := ih
    have hlt : S.heap.size < (zQf S cA cI n k i).heap.size := by omega
    have hc : ((zQf S cA cI n k i).pushCell (arrV cI k (fun _ => .int 0))).heap[S.heap.size]? = some (arrV cA n (zMr S.heap.size i)) := by
      rw [State.heap_pushCell_of_lt (h := hlt)]
      exact h2
    refine ⟨?_, State.heap_setCell_self hc, h3, ?_, fun a ha => ?_, fun j hj => ?_⟩
    · have z : ((zQf S cA cI n k i).pushCell (arrV cI k (fun _ => .int 0))).heap.size = (zQf S cA cI n k i).heap.size + 1 := by simp
      show (((zQf S cA cI n k i).pushCell (arrV cI k (fun _ => .int 0))).setCell S.heap.size _).heap.size = _
      rw [show ∀ (U : State) (a : Addr) (x : Cell), (U.setCell a x).heap.size = U.heap.size from fun U a x => by simp [State.setCell], z]
      omega
    · show ((zQf S cA cI n k i).pushCell (arrV cI k (fun _ => .int 0))).slotsUsed = _
      rw [State.slotsUsed_pushCell, arrV_size, h4, Nat.succ_mul]
      omega
    · show (((zQf S cA cI n k i).pushCell (arrV cI k (fun _ => .int 0))).setCell S.heap.size _).heap[a]? = _
      have q : a < (zQf S cA cI n k i).heap.size := by omega
      rw [State.heap_setCell_other (Nat.ne_of_gt ha), State.heap_pushCell_of_lt (h := q)]
      exact h5 a ha
    · show (((zQf S cA cI n k i).pushCell (arrV cI k (fun _ => .int 0))).setCell S.heap.size _).heap[S.heap.size + 1 + j]? = _
      rw [State.heap_setCell_other (show S.heap.size ≠ S.heap.size + 1 + j by omega)]
      by_cases e : j = i
      · rw [e, ← h1]
        exact State.heap_pushCell_size _ _
      · have q : S.heap.size + 1 + j < (zQf S cA cI n k i).heap.size := by omega
        rw [State.heap_pushCell_of_lt (h := q)]
        exact h6 j (by omega)
theorem zQf_top (S : State) (f : JFrame) (cA cI : ClassId) (n k : Nat) : ∀ i, zQf (S.setTop f) cA cI n k i = (zQf S cA cI n k i).setTop f := by
  intro i
  induction i with
  | zero => rfl
  | succ i ih =>
    simp only [zQf, ih, State.heap_setTop, State.pushCell_setTop, State.setCell_setTop]
section
variable {p : Program} {l : Launch} {e : Env} {R : Room} {s : State} {m : MethodId} {args : Array Value} {below : List Frame} {meth : Method} {c : Code} {T : State} {locs : List Loc} {cells slots : Nat}
theorem zQf_st (X : Stand p l e R s m args below meth c T locs cells slots) (cA cI : ClassId) (n k : Nat) : ∀ i, Stand p l e R s m args below meth c (zQf T cA cI n k i) (locs ++ (List.range i).map (fun j => (⟨T.heap.size, j⟩ : Loc))) (cells + 1 + i) (slots + n + i * k) := by
  intro i
  induction i with
  | zero =>
    have h := X.pushed (arrV cA n (zMr T.heap.size 0))
    rw [arrV_size] at h
    rw [List.range_zero, List.map_nil, List.append_nil, Nat.zero_mul]
    exact h
  | succ i ih =>
    obtain ⟨h1, h2, -⟩ := zQf_f T cA cI n k i
    have hlt : T.heap.size < (zQf T cA cI n k i).heap.size := by omega
    have hc : ((zQf T cA cI n k i).pushCell (arrV cI k (fun _ => .int 0))).heap[T.heap.size]? = some (arrV cA n (zMr T.heap.size i)) := by
      rw [State.heap_pushCell_of_lt (h := hlt)]
      exact h2
    have h := (ih.pushed (arrV cI k (fun _ => .int 0))).stored hc i (.ref (T.heap.size + 1 + i))
    rw [arrV_store, zMr_s, arrV_size, List.append_assoc] at h
    have e1 : (List.range (i + 1)).map (fun j => (⟨T.heap.size, j⟩ : Loc)) = (List.range i).map (fun j => (⟨T.heap.size, j⟩ : Loc)) ++ [⟨T.heap.size, i⟩] := by
      rw [List.range_succ, List.map_append]
      rfl
    rw [e1, show slots + n + (i + 1) * k = slots + n + i * k + k by rw [Nat.succ_mul]; omega]
    exact h
end
section
variable {E : CtlPost} {e : Env} {d : Bool} {acts : List Action} {S : State}
theorem zw_row {cI cz : ClassId} {kI : Class} (hk : S.vm.classes[cI]? = some kI) (hki : kI.kind = .array cz .int) (hl : ¬ 20 > e.platform.arrayLengthLimit) (hh : ¬ 80 > e.platform.maxHeapBytes) (h1 : S.heap.size < e.platform.maxCells) (h2 : S.slotsUsed + 20 ≤ e.platform.maxSlots) {Q : Addr → Pre} (hq : ∀ acts', Q S.heap.size d acts' (S.pushCell (arrV cI 20 (fun _ => .int 0)))) : wp (multianewarray.make cI [20]) Q E e d acts S := by
  rw [multianewarray.make]
  simp only [wp_bind', W.ite, show ¬ (20 : Int32) < 0 by decide, if_false, wp_pure', W.theClass, hk, hki, Option.some.injEq, exists_eq_left']
  refine W.newArray_of hk hki hl hh h1 h2 rfl (fun acts' => ?_)
  have h := hq acts'
  rw [← arrV_new] at h
  exact h
theorem zw_make {cA cI cz : ClassId} {kA kI : Class} (hkA : S.vm.classes[cA]? = some kA) (hA : kA.kind = .array cI (.array .int)) (hkI : S.vm.classes[cI]? = some kI) (hI : kI.kind = .array cz .int) (hl : ¬ 40 > e.platform.arrayLengthLimit) (hh : ¬ 160 > e.platform.maxHeapBytes) (h1 : S.heap.size + 41 ≤ e.platform.maxCells) (h2 : S.slotsUsed + 840 ≤ e.platform.maxSlots) {Q : Addr → Pre} (hq : ∀ d' acts', Q S.heap.size d' acts' (zQf S cA cI 40 20 40)) : wp (multianewarray.make cA [40, 20]) Q E e d acts S := by
  rw [multianewarray.make]
  simp only [wp_bind', W.ite, show ¬ (40 : Int32) < 0 by decide, if_false, wp_pure', W.theClass, hkA, hA, Option.some.injEq, exists_eq_left']
  refine W.newArray_of hkA hA hl hh (by omega) (by show S.slotsUsed + 40 ≤ _; omega) rfl (fun acts' => ?_)
  rw [show ((40 : Int32) == 0) = false from rfl]
  simp only [Bool.false_eq_true, if_false, wp_bind', wp_pure']
  rw [Std.Legacy.Range.forIn_eq_forIn_range']
  show wp (forIn (List.range' 0 40 1) PUnit.unit _) _ E e d acts' _
  refine wp_forIn_inv (fun rest S' => ∃ i, i ≤ 40 ∧ rest = List.range' i (40 - i) ∧ S' = zQf S cA cI 40 20 i) _ _ ⟨0, by decide, rfl, ?_⟩ ?_ ?_
  · show S.pushCell _ = S.pushCell (arrV cA 40 (zMr S.heap.size 0))
    rw [arrV_new]
    rfl
  · rintro x rest S' d' acts2 Q' ⟨i, hi, hr, rfl⟩ hnext
    have hlt : i < 40 := by
      rcases Nat.lt_or_ge i 40 with h | h
      · exact h
      · rw [show 40 - i = 0 by omega] at hr
        cases hr
    rw [show 40 - i = (40 - (i + 1)) + 1 by omega, List.range'_succ] at hr
    obtain ⟨rfl, hr2⟩ := List.cons.inj hr
    obtain ⟨f1, f2, f3, f4, -⟩ := zQf_f S cA cI 40 20 x
    simp only [wp_bind']
    refine zw_row (by rw [f3]; exact hkI) hI (by omega) (by omega) (by omega) (by omega) (fun acts3 => ?_)
    have hl0 : S.heap.size < (zQf S cA cI 40 20 x).heap.size := by omega
    simp only [wp_bind', W.writeLoc, wp_pure']
    refine ⟨arrV cA 40 (zMr S.heap.size x), by rw [State.heap_pushCell_of_lt (h := hl0)]; exact f2, (fun q => by cases q), by rw [arrV_size]; exact hlt, ?_, hnext _ _ _ ⟨x + 1, hlt, hr2, ?_⟩⟩
    · show State.fitsSlot _ cA .none x _ = true
      simp [State.fitsSlot, State.slotType?, f3, hkA, hA]
      rfl
    · rw [arrV_store, f1, zMr_s]
      rfl
  · rintro S' d' acts2 ⟨i, hi, hr, rfl⟩
    have e40 : i = 40 := by
      rcases Nat.lt_or_ge i 40 with h | h
      · rw [show 40 - i = (40 - (i + 1)) + 1 by omega, List.range'_succ] at hr
        cases hr
      · omega
    subst e40
    simp only [wp_pure']
    exact hq _ _
end
section
variable {p : Program} {l : Launch} {e : Env} {R : Room} {s : State} {m : MethodId} {args : Array Value} {below : List Frame} {meth : Method} {c : Code} {H : Heap} {locs : List Loc} {cells slots : Nat} {Q : State → Prop} {cc : ByteArray} {pc : Nat} {ls : Array Slot} {rest : List Value}
theorem zw_mna (hexec : p.tables.exec = Jvm.exec) (hb : c.code = cc) {own : String} {index : Nat} {cA cI cz : ClassId} {kA kI : Class} (hown : s.vm.findClass own = some m.cls) (hcl : (Cond.classLink own index "[[I").before args s = true) (hA : s.vm.findClass "[[I" = some cA) (hkA : s.vm.classes[cA]? = some kA) (hiA : kA.kind = .array cI (.array .int)) (hkI : s.vm.classes[cI]? = some kI) (hiI : kI.kind = .array cz .int) (hdg : decode cc pc = .ok (.multianewarray index 2, 4)) (hc : cells + 41 ≤ R.cells) (hs : slots + 840 ≤ R.slots)
    (kk : ∀ (H1 : Heap) (L : List Loc), (∀ x ∈ L, x.base = H.size) → H1.size = H.size + 41 → (∀ a, a < H.size → H1[a]? = H[a]?) → H1[H.size]? = some (arrV cA 40 (zMr H.size 40)) → (∀ j, j < 40 → H1[H.size + 1 + j]? = some (arrV cI 20 (fun _ => .int 0))) → W p l e R s m args below meth c H1 (locs ++ L) (cells + 41) (slots + 840) Q (F0 m (pc + 4) ls (.ref H.size :: rest))) : W p l e R s m args below meth c H locs cells slots Q (F0 m pc ls (.int 20 :: .int 40 :: rest)) := by
  intro T hT X
  subst hT
  have hpl : e.platform.magicAccessors = ({} : Platform).magicAccessors := by rw [X.admits.platform]
  obtain ⟨c0, hf0, hlk⟩ := Cond.classLink_spec hown hcl e.platform hpl
  have e0 : c0 = cA := Option.some.inj (hf0.symm.trans hA)
  rw [e0] at hlk
  obtain ⟨hg, hwm, -⟩ := State.classEntry (e := e) X.warmed hlk
  generalize T.vm.noted m.cls index (.cls cA) = vm1 at hg hwm
  obtain ⟨kA1, hkA1, eA⟩ := hwm.alike.2.2 _ _ hkA
  obtain ⟨kI1, hkI1, eI⟩ := hwm.alike.2.2 _ _ hkI
  have X1 := X.noted hwm
  have XF := zQf_st X1 cA cI 40 20 40
  obtain ⟨f1, f2, -, -, f5, f6⟩ := zQf_f (T.setVm vm1) cA cI 40 20 40
  obtain ⟨t, st, hq⟩ := kk _ _ (fun x hx => by obtain ⟨j, -, rfl⟩ := List.mem_map.mp hx; rfl) f1 f5 f2 f6 _ rfl XF
  refine ⟨t, ?_, hq⟩
  obtain ⟨hr1, hr2⟩ := X.roomAbove hc hs
  have hdg2 : decode c.code pc = .ok (.multianewarray index 2, 4) := by
    rw [hb]
    exact hdg
  jvm_step X.here [hexec, hdg2]
  simp only [multianewarray.sem, wp_bind', W.resolveClassAt_links (State.method?_setTop (F0 m pc ls (.int 20 :: .int 40 :: rest)) X.here.top) hg]
  rw [W.popN, if_neg (by decide)]
  refine ⟨F0 m pc ls (.int 20 :: .int 40 :: rest), State.topJava?_setTop' (s := T.setVm vm1) _ X.here.top, [.int 40, .int 20], rest, rfl, rfl, ?_⟩
  simp only [List.mapM_cons, List.mapM_nil, wp_bind', wp_pure']
  refine zw_make (S := ((T.setTop (F0 m pc ls (.int 20 :: .int 40 :: rest))).setVm vm1).setTop (F0 m pc ls rest)) (kA := kA1) (kI := kI1) (cI := cI) (cz := cz) hkA1 (by rw [eA]; exact hiA) hkI1 (by rw [eI]; exact hiI) (by rw [Launch.admits_arrayLengthLimit X.admits]; decide) (by rw [Launch.admits_maxHeapBytes X.admits]; decide) hr1 hr2 (fun d' acts' => ?_)
  have eS : ((T.setTop (F0 m pc ls (.int 20 :: .int 40 :: rest))).setVm vm1).setTop (F0 m pc ls rest) = (T.setVm vm1).setTop (F0 m pc ls rest) := by
    show ((T.setVm vm1).setTop _).setTop _ = _
    rw [State.setTop_setTop]
  rw [eS, zQf_top]
  simp only [wp_bind', W.mark, W.pushRef, State.topJava?_setTop' _ XF.here.top, Option.some.injEq, exists_eq_left', State.setTop_setTop, State.heap_setTop]
  intro acts
  simp [jvm, XF.here.top]
  exact st
end
end ZMN
