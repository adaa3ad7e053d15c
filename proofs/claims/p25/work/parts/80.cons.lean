section ZCN
/-! THE WORLD WHILE IT IS MADE: an explicit list of cells -/
def z_AOs (g : zG) (U : State) : Prop := va_AO "FlexibleBoxes$Box" U ∧ va_AO "FlexibleBoxes$Snapshot" U
theorem z_AOs.moved {g : zG} {u U : State} (hvm : u.vm.Alike U.vm) (h : z_AOs g u) : z_AOs g U := ⟨h.1.moved hvm, h.2.moved hvm⟩
def z_KI (g : zG) (U : State) : Prop := z_K g U ∧ z_AOs g U ∧ g.2.2.2.2 ≤ U.heap.size
theorem z_KI.at {g : zG} {s U : State} {H : Heap} {locs : List Loc} (hW : s.WarmedH U.vm) (hU : U.heap = H) (hS : va_S (z_A g) s.heap H locs) (h : z_KI g s) : z_KI g U := ⟨h.1.at hW hU hS, h.2.1.moved hW.alike, by rw [hU]; exact Nat.le_trans h.2.2 hS.1⟩
theorem z_KI.calling {g : zG} {U : State} (f : JFrame) (mk : MethodId) (a : Array Value) (h : z_KI g U) : z_KI g (U.calling f mk a) := ⟨h.1.calling f mk a, h.2.1.moved (U := U.calling f mk a) (Vm.Alike.refl U.vm), h.2.2⟩
def zX0 (C : zC) (cc : ByteArray) (nL : Nat) (own : String) (Ts : List Cond) (g : zG) : Prop :=
  C.1.tables.exec = Jvm.exec ∧ C.2.2.2.2.2.2.2.2.2.1.code = cc ∧ C.2.2.2.2.2.2.2.2.2.1.maxLocals = nL ∧ C.2.2.2.2.1.vm.findClass own = some C.2.2.2.2.2.1.cls ∧ (∀ w ∈ Ts, w.before C.2.2.2.2.2.2.1 C.2.2.2.2.1 = true) ∧ z_KI g C.2.2.2.2.1
/-- the walk over an explicit list of cells -/
def zI (C : zC) (g : zG) (nL cells slots : Nat) (X : va_W) (pc : Nat) (lv : List (Nat × Value)) (st : List Value) : Prop :=
  ∀ (H : Heap) (locs : List Loc) (ls : Array Slot), va_P g.2.1 zCls X H → va_D (z_A g) X → va_S (z_A g) C.2.2.2.2.1.heap H locs → lv_has ls nL lv → zWc C H locs cells slots (F0 C.2.2.2.2.2.1 pc ls st)
theorem y_widen {C : zC} {g : zG} {nL cells slots k n : Nat} {X : va_W} {pc : Nat} {lv : List (Nat × Value)} {st : List Value} (h1 : cells ≤ k) (h2 : slots ≤ n) (h : zI C g nL k n X pc lv st) : zI C g nL cells slots X pc lv st := fun H locs ls hP hD hS hl => W.widen h1 h2 (h H locs ls hP hD hS hl)
theorem y_lvs {C : zC} {g : zG} {nL cells slots : Nat} {X : va_W} {pc : Nat} {lv lv' : List (Nat × Value)} {st : List Value} (ks : List Nat) (h : lv_pick lv ks = lv') (k : zI C g nL cells slots X pc lv' st) : zI C g nL cells slots X pc lv st := fun H locs ls hP hD hS hl => k H locs ls hP hD hS (lv_sub hl ks h)
theorem y_eqI {C : zC} {g : zG} {nL cells slots : Nat} {X : va_W} {pc : Nat} {lv : List (Nat × Value)} {st : List Value} {x y : Int32} (e : x = y) (k : zI C g nL cells slots X pc lv (.int y :: st)) : zI C g nL cells slots X pc lv (.int x :: st) := by
  rw [e]
  exact k
/-- apart, by the addresses alone -/
theorem va_D_iff {A : Nat → Prop} {ws : va_W} : va_D A ws ↔ ws.Pairwise (fun p q => p.1 ≠ q.1) ∧ ∀ p ∈ ws, A p.1 := by
  constructor
  · rintro ⟨h1, h2⟩
    refine ⟨List.pairwise_iff_getElem.mpr (fun i j hi hj hij e => ?_), fun p hp => ?_⟩
    · have := h1 i j _ _ (List.getElem?_eq_getElem hi) (List.getElem?_eq_getElem hj) e
      omega
    · obtain ⟨i, hi⟩ := List.getElem?_of_mem hp
      exact h2 i p hi
  · rintro ⟨h1, h2⟩
    refine ⟨fun i j p q hi hj e => ?_, fun k q hk => h2 q (List.mem_of_getElem? hk)⟩
    obtain ⟨li, ei⟩ := List.getElem?_eq_some_iff.mp hi
    obtain ⟨lj, ej⟩ := List.getElem?_eq_some_iff.mp hj
    have h3 := List.pairwise_iff_getElem.mp h1
    rcases Nat.lt_trichotomy i j with h | h | h
    · exact absurd (by rw [ei, ej]; exact e) (h3 i j li lj h)
    · exact h
    · exact absurd (by rw [ei, ej]; exact e.symm) (h3 j i lj li h)
theorem va_P_mem {D : va_G} {cl : List vw_C} {ws : va_W} {H : Heap} : va_P D cl ws H ↔ ∀ p ∈ ws, va_at D cl p H := by
  constructor
  · intro h p hp
    obtain ⟨i, hi⟩ := List.getElem?_of_mem hp
    exact h i p hi
  · exact fun h k q hk => h q (List.mem_of_getElem? hk)
theorem va_D_perm {A : Nat → Prop} {X Y : va_W} (h : X.Perm Y) (hD : va_D A X) : va_D A Y := by
  rw [va_D_iff] at hD ⊢
  exact ⟨(h.pairwise_iff (fun hpq => Ne.symm hpq)).mp hD.1, fun p hp => hD.2 p (h.mem_iff.mpr hp)⟩
theorem va_P_perm {D : va_G} {cl : List vw_C} {X Y : va_W} {H : Heap} (h : X.Perm Y) (hP : va_P D cl X H) : va_P D cl Y H := by
  rw [va_P_mem] at hP ⊢
  exact fun p hp => hP p (h.mem_iff.mpr hp)
/-- the cells in another order -/
theorem y_perm {C : zC} {g : zG} {nL cells slots : Nat} {X Y : va_W} {pc : Nat} {lv : List (Nat × Value)} {st : List Value} (h : X.Perm Y) (k : zI C g nL cells slots Y pc lv st) : zI C g nL cells slots X pc lv st := fun H locs ls hP hD hS hl => k H locs ls (va_P_perm h hP) (va_D_perm h hD) hS hl
theorem va_snoc {X : va_W} {c : Nat × va_E} : (X ++ [c]).Perm (c :: X) := List.perm_append_comm
theorem y_iconst {C : zC} {g : zG} {nL cells slots : Nat} {X : va_W} {pc : Nat} {lv : List (Nat × Value)} {st : List Value} {cc : ByteArray} {own : String} {Ts : List Cond} (hC : zX0 C cc nL own Ts g) {n : Int} {v : Int32} (hdg : decode cc pc = .ok (.iconst n, 1)) (hv : Int32.ofInt n = v) (k : zI C g nL cells slots X (pc + 1) lv (.int v :: st)) : zI C g nL cells slots X pc lv st := fun H locs ls hP hD hS hl => lv_iconst hC.1 hC.2.1 hdg hv (k H locs ls hP hD hS hl)
theorem y_bipush {C : zC} {g : zG} {nL cells slots : Nat} {X : va_W} {pc : Nat} {lv : List (Nat × Value)} {st : List Value} {cc : ByteArray} {own : String} {Ts : List Cond} (hC : zX0 C cc nL own Ts g) {n : Int} {v : Int32} (hdg : decode cc pc = .ok (.bipush n, 2)) (hv : (Int8.ofInt n).toInt32 = v) (k : zI C g nL cells slots X (pc + 2) lv (.int v :: st)) : zI C g nL cells slots X pc lv st := fun H locs ls hP hD hS hl => lv_bipush hC.1 hC.2.1 hdg hv (k H locs ls hP hD hS hl)
theorem y_sipush {C : zC} {g : zG} {nL cells slots : Nat} {X : va_W} {pc : Nat} {lv : List (Nat × Value)} {st : List Value} {cc : ByteArray} {own : String} {Ts : List Cond} (hC : zX0 C cc nL own Ts g) {n : Int} {v : Int32} (hdg : decode cc pc = .ok (.sipush n, 3)) (hv : (Int16.ofInt n).toInt32 = v) (k : zI C g nL cells slots X (pc + 3) lv (.int v :: st)) : zI C g nL cells slots X pc lv st := fun H locs ls hP hD hS hl => lv_sipush hC.1 hC.2.1 hdg hv (k H locs ls hP hD hS hl)
theorem y_iload_n {C : zC} {g : zG} {nL cells slots : Nat} {X : va_W} {pc : Nat} {lv : List (Nat × Value)} {st : List Value} {cc : ByteArray} {own : String} {Ts : List Cond} (hC : zX0 C cc nL own Ts g) {kf : Fin 4} {i : Nat} {x : Int32} (j : Nat) (hdg : decode cc pc = .ok (.iload_n kf, 1)) (hi : (kf : Nat) = i) (hj : lv[j]? = some (i, .int x)) (k : zI C g nL cells slots X (pc + 1) lv (.int x :: st)) : zI C g nL cells slots X pc lv st := fun H locs ls hP hD hS hl => lv_iload_n hC.1 hC.2.1 hdg hi (lv_at hl j hj) (k H locs ls hP hD hS hl)
theorem y_iload {C : zC} {g : zG} {nL cells slots : Nat} {X : va_W} {pc : Nat} {lv : List (Nat × Value)} {st : List Value} {cc : ByteArray} {own : String} {Ts : List Cond} (hC : zX0 C cc nL own Ts g) {i : Nat} {x : Int32} (j : Nat) (hdg : decode cc pc = .ok (.iload i, 2)) (hj : lv[j]? = some (i, .int x)) (k : zI C g nL cells slots X (pc + 2) lv (.int x :: st)) : zI C g nL cells slots X pc lv st := fun H locs ls hP hD hS hl => lv_iload hC.1 hC.2.1 hdg (lv_at hl j hj) (k H locs ls hP hD hS hl)
theorem y_istore_n {C : zC} {g : zG} {nL cells slots : Nat} {X : va_W} {pc : Nat} {lv : List (Nat × Value)} {st : List Value} {cc : ByteArray} {own : String} {Ts : List Cond} (hC : zX0 C cc nL own Ts g) {kf : Fin 4} {i : Nat} {x : Int32} {lv' : List (Nat × Value)} (hdg : decode cc pc = .ok (.istore_n kf, 1)) (hi : (kf : Nat) = i) (hn : i < nL) (hlv : (i, Value.int x) :: lv.filter (fun q => !(q.1 == i) && !(q.1 + 1 == i && q.2.category == 2)) = lv') (k : zI C g nL cells slots X (pc + 1) lv' st) : zI C g nL cells slots X pc lv (.int x :: st) := fun H locs ls hP hD hS hl => lv_istore_n hC.1 hC.2.1 hdg hi hl hn hlv (fun ls' hl' => k H locs ls' hP hD hS hl')
theorem y_istore {C : zC} {g : zG} {nL cells slots : Nat} {X : va_W} {pc : Nat} {lv : List (Nat × Value)} {st : List Value} {cc : ByteArray} {own : String} {Ts : List Cond} (hC : zX0 C cc nL own Ts g) {i : Nat} {x : Int32} {lv' : List (Nat × Value)} (hdg : decode cc pc = .ok (.istore i, 2)) (hn : i < nL) (hlv : (i, Value.int x) :: lv.filter (fun q => !(q.1 == i) && !(q.1 + 1 == i && q.2.category == 2)) = lv') (k : zI C g nL cells slots X (pc + 2) lv' st) : zI C g nL cells slots X pc lv (.int x :: st) := fun H locs ls hP hD hS hl => lv_istore hC.1 hC.2.1 hdg hl hn hlv (fun ls' hl' => k H locs ls' hP hD hS hl')
theorem y_aload_n {C : zC} {g : zG} {nL cells slots : Nat} {X : va_W} {pc : Nat} {lv : List (Nat × Value)} {st : List Value} {cc : ByteArray} {own : String} {Ts : List Cond} (hC : zX0 C cc nL own Ts g) {kf : Fin 4} {i : Nat} {v : Value} (j : Nat) (hdg : decode cc pc = .ok (.aload_n kf, 1)) (hi : (kf : Nat) = i) (hj : lv[j]? = some (i, v)) (hv : z_isr v) (k : zI C g nL cells slots X (pc + 1) lv (v :: st)) : zI C g nL cells slots X pc lv st := fun H locs ls hP hD hS hl => by
  rcases hv with rfl | ⟨a, rfl⟩
  · exact lv_aload_nN hC.1 hC.2.1 hdg hi (lv_at hl j hj) (k H locs ls hP hD hS hl)
  · exact lv_aload_n hC.1 hC.2.1 hdg hi (lv_at hl j hj) (k H locs ls hP hD hS hl)
theorem y_aload {C : zC} {g : zG} {nL cells slots : Nat} {X : va_W} {pc : Nat} {lv : List (Nat × Value)} {st : List Value} {cc : ByteArray} {own : String} {Ts : List Cond} (hC : zX0 C cc nL own Ts g) {i : Nat} {v : Value} (j : Nat) (hdg : decode cc pc = .ok (.aload i, 2)) (hj : lv[j]? = some (i, v)) (hv : z_isr v) (k : zI C g nL cells slots X (pc + 2) lv (v :: st)) : zI C g nL cells slots X pc lv st := fun H locs ls hP hD hS hl => by
  rcases hv with rfl | ⟨a, rfl⟩
  · exact lv_aloadN hC.1 hC.2.1 hdg (lv_at hl j hj) (k H locs ls hP hD hS hl)
  · exact lv_aload hC.1 hC.2.1 hdg (lv_at hl j hj) (k H locs ls hP hD hS hl)
theorem y_astore_n {C : zC} {g : zG} {nL cells slots : Nat} {X : va_W} {pc : Nat} {lv : List (Nat × Value)} {st : List Value} {cc : ByteArray} {own : String} {Ts : List Cond} (hC : zX0 C cc nL own Ts g) {kf : Fin 4} {i : Nat} {v : Value} {lv' : List (Nat × Value)} (hdg : decode cc pc = .ok (.astore_n kf, 1)) (hi : (kf : Nat) = i) (hn : i < nL) (hv : z_isr v) (hlv : (i, v) :: lv.filter (fun q => !(q.1 == i) && !(q.1 + 1 == i && q.2.category == 2)) = lv') (k : zI C g nL cells slots X (pc + 1) lv' st) : zI C g nL cells slots X pc lv (v :: st) := fun H locs ls hP hD hS hl => by
  rcases hv with rfl | ⟨a, rfl⟩
  · exact lv_astore_nN hC.1 hC.2.1 hdg hi hl hn hlv (fun ls' hl' => k H locs ls' hP hD hS hl')
  · exact lv_astore_n hC.1 hC.2.1 hdg hi hl hn hlv (fun ls' hl' => k H locs ls' hP hD hS hl')
theorem y_astore {C : zC} {g : zG} {nL cells slots : Nat} {X : va_W} {pc : Nat} {lv : List (Nat × Value)} {st : List Value} {cc : ByteArray} {own : String} {Ts : List Cond} (hC : zX0 C cc nL own Ts g) {i : Nat} {v : Value} {lv' : List (Nat × Value)} (hdg : decode cc pc = .ok (.astore i, 2)) (hn : i < nL) (hv : z_isr v) (hlv : (i, v) :: lv.filter (fun q => !(q.1 == i) && !(q.1 + 1 == i && q.2.category == 2)) = lv') (k : zI C g nL cells slots X (pc + 2) lv' st) : zI C g nL cells slots X pc lv (v :: st) := fun H locs ls hP hD hS hl => by
  rcases hv with rfl | ⟨a, rfl⟩
  · exact lv_astoreN hC.1 hC.2.1 hdg hl hn hlv (fun ls' hl' => k H locs ls' hP hD hS hl')
  · exact lv_astore hC.1 hC.2.1 hdg hl hn hlv (fun ls' hl' => k H locs ls' hP hD hS hl')
theorem y_null {C : zC} {g : zG} {nL cells slots : Nat} {X : va_W} {pc : Nat} {lv : List (Nat × Value)} {st : List Value} {cc : ByteArray} {own : String} {Ts : List Cond} (hC : zX0 C cc nL own Ts g)  (hdg : decode cc pc = .ok (.aconst_null, 1)) (k : zI C g nL cells slots X (pc + 1) lv (.null :: st)) : zI C g nL cells slots X pc lv st := fun H locs ls hP hD hS hl => lv_null hC.1 hC.2.1 hdg (k H locs ls hP hD hS hl)
theorem y_iinc {C : zC} {g : zG} {nL cells slots : Nat} {X : va_W} {pc : Nat} {lv : List (Nat × Value)} {st : List Value} {cc : ByteArray} {own : String} {Ts : List Cond} (hC : zX0 C cc nL own Ts g) {i : Nat} {n : Int} {x v : Int32} {lv' : List (Nat × Value)} (j : Nat) (hdg : decode cc pc = .ok (.iinc i n, 3)) (hj : lv[j]? = some (i, .int x)) (hv : x + Int32.ofInt n = v) (hn : i < nL) (hlv : (i, Value.int v) :: lv.filter (fun q => !(q.1 == i) && !(q.1 + 1 == i && q.2.category == 2)) = lv') (k : zI C g nL cells slots X (pc + 3) lv' st) : zI C g nL cells slots X pc lv st := fun H locs ls hP hD hS hl => lv_iinc hC.1 hC.2.1 hdg hl hj hv hn hlv (fun ls' hl' => k H locs ls' hP hD hS hl')
theorem y_iadd {C : zC} {g : zG} {nL cells slots : Nat} {X : va_W} {pc : Nat} {lv : List (Nat × Value)} {st : List Value} {cc : ByteArray} {own : String} {Ts : List Cond} (hC : zX0 C cc nL own Ts g) {x y : Int32} (hdg : decode cc pc = .ok (.iadd, 1)) (k : zI C g nL cells slots X (pc + 1) lv (.int (x + y) :: st)) : zI C g nL cells slots X pc lv (.int y :: .int x :: st) := fun H locs ls hP hD hS hl => lv_iadd hC.1 hC.2.1 hdg (k H locs ls hP hD hS hl)
theorem y_isub {C : zC} {g : zG} {nL cells slots : Nat} {X : va_W} {pc : Nat} {lv : List (Nat × Value)} {st : List Value} {cc : ByteArray} {own : String} {Ts : List Cond} (hC : zX0 C cc nL own Ts g) {x y : Int32} (hdg : decode cc pc = .ok (.isub, 1)) (k : zI C g nL cells slots X (pc + 1) lv (.int (x - y) :: st)) : zI C g nL cells slots X pc lv (.int y :: .int x :: st) := fun H locs ls hP hD hS hl => lv_isub hC.1 hC.2.1 hdg (k H locs ls hP hD hS hl)
theorem y_imul {C : zC} {g : zG} {nL cells slots : Nat} {X : va_W} {pc : Nat} {lv : List (Nat × Value)} {st : List Value} {cc : ByteArray} {own : String} {Ts : List Cond} (hC : zX0 C cc nL own Ts g) {x y : Int32} (hdg : decode cc pc = .ok (.imul, 1)) (k : zI C g nL cells slots X (pc + 1) lv (.int (x * y) :: st)) : zI C g nL cells slots X pc lv (.int y :: .int x :: st) := fun H locs ls hP hD hS hl => lv_imul hC.1 hC.2.1 hdg (k H locs ls hP hD hS hl)
theorem y_dup {C : zC} {g : zG} {nL cells slots : Nat} {X : va_W} {pc : Nat} {lv : List (Nat × Value)} {st : List Value} {cc : ByteArray} {own : String} {Ts : List Cond} (hC : zX0 C cc nL own Ts g) {v : Value} (hdg : decode cc pc = .ok (.dup, 1)) (hv : v.category = 1) (k : zI C g nL cells slots X (pc + 1) lv (v :: v :: st)) : zI C g nL cells slots X pc lv (v :: st) := fun H locs ls hP hD hS hl => lv_dup hC.1 hC.2.1 hdg hv (k H locs ls hP hD hS hl)
theorem y_dup2 {C : zC} {g : zG} {nL cells slots : Nat} {X : va_W} {pc : Nat} {lv : List (Nat × Value)} {st : List Value} {cc : ByteArray} {own : String} {Ts : List Cond} (hC : zX0 C cc nL own Ts g) {u v : Value} (hdg : decode cc pc = .ok (.dup2, 1)) (hu : u.category = 1) (hv : v.category = 1) (k : zI C g nL cells slots X (pc + 1) lv (u :: v :: u :: v :: st)) : zI C g nL cells slots X pc lv (u :: v :: st) := fun H locs ls hP hD hS hl => lv_dup2_11 hC.1 hC.2.1 hdg hu hv (k H locs ls hP hD hS hl)
theorem y_pop {C : zC} {g : zG} {nL cells slots : Nat} {X : va_W} {pc : Nat} {lv : List (Nat × Value)} {st : List Value} {cc : ByteArray} {own : String} {Ts : List Cond} (hC : zX0 C cc nL own Ts g) {v : Value} (hdg : decode cc pc = .ok (.pop, 1)) (hv : v.category = 1) (k : zI C g nL cells slots X (pc + 1) lv st) : zI C g nL cells slots X pc lv (v :: st) := fun H locs ls hP hD hS hl => lv_pop hC.1 hC.2.1 hdg hv (k H locs ls hP hD hS hl)
theorem y_goto {C : zC} {g : zG} {nL cells slots : Nat} {X : va_W} {pc : Nat} {lv : List (Nat × Value)} {st : List Value} {cc : ByteArray} {own : String} {Ts : List Cond} (hC : zX0 C cc nL own Ts g) {off : Int} {tgt : Nat} (hdg : decode cc pc = .ok (.goto off, 3)) (ht : (pc : Int) + off = (tgt : Int)) (k : zI C g nL cells slots X tgt lv st) : zI C g nL cells slots X pc lv st := fun H locs ls hP hD hS hl => lv_goto hC.1 hC.2.1 hdg ht (k H locs ls hP hD hS hl)
theorem y_icmp_ge {C : zC} {g : zG} {nL cells slots : Nat} {X : va_W} {pc : Nat} {lv : List (Nat × Value)} {st : List Value} {cc : ByteArray} {own : String} {Ts : List Cond} (hC : zX0 C cc nL own Ts g) {x y : Int32} {off : Int} {tgt : Nat} (hdg : decode cc pc = .ok (.if_icmp .ge off, 3)) (ht : (pc : Int) + off = (tgt : Int)) (kt : y ≤ x → zI C g nL cells slots X tgt lv st) (kf : ¬ y ≤ x → zI C g nL cells slots X (pc + 3) lv st) : zI C g nL cells slots X pc lv (.int y :: .int x :: st) := fun H locs ls hP hD hS hl => lv_icmp_ge hC.1 hC.2.1 hdg ht (fun h => kt h H locs ls hP hD hS hl) (fun h => kf h H locs ls hP hD hS hl)
theorem y_gets {C : zC} {g : zG} {nL cells slots : Nat} {X : va_W} {pc : Nat} {lv : List (Nat × Value)} {st : List Value} {cc : ByteArray} {own : String} {Ts : List Cond} (hC : zX0 C cc nL own Ts g) {index : Nat} (k : Nat) (hst : z_static g C.2.2.2.2.1 k) (hlink : Cond.fieldLink own index "FlexibleBoxes" (z_sn k) "[I" ∈ Ts) (hdg : decode cc pc = .ok (.getstatic index, 3)) (kk : zI C g nL cells slots X (pc + 3) lv (.ref (g.2.2.2.1 k) :: st)) : zI C g nL cells slots X pc lv st := fun H locs ls hP hD hS hl => va_gets hC.1 hC.2.1 hst.1 hS hC.2.2.2.1 (hC.2.2.2.2.1 _ hlink) (fun _ h => h) hdg (kk H locs ls hP hD hS hl)
theorem y_sald {C : zC} {g : zG} {nL cells slots : Nat} {X : va_W} {pc : Nat} {lv : List (Nat × Value)} {st : List Value} {cc : ByteArray} {own : String} {Ts : List Cond} (hC : zX0 C cc nL own Ts g) {x : Int32} (k : Nat) (hst : z_static g C.2.2.2.2.1 k) (hin : vp_in x 20) (hdg : decode cc pc = .ok (.iaload, 1)) (kk : zI C g nL cells slots X (pc + 1) lv (.int (z_st k x.toNatClampNeg) :: st)) : zI C g nL cells slots X pc lv (.int x :: .ref (g.2.2.2.1 k) :: st) := fun H locs ls hP hD hS hl => va_sld hC.1 hC.2.1 hst.2.1 hst.2.2.1 hst.2.2.2 hS hin hdg (kk H locs ls hP hD hS hl)
theorem y_tswK {C : zC} {g : zG} {nL cells slots : Nat} {X : va_W} {pc : Nat} {lv : List (Nat × Value)} {st : List Value} {cc : ByteArray} {own : String} {Ts : List Cond} (hC : zX0 C cc nL own Ts g) {x : Int32} {d lo hi off : Int} {offs : Array Int} {tgt len : Nat} (hdg : decode cc pc = .ok (.tableswitch d lo hi offs, len)) (h1 : ¬ x.toInt < lo) (h2 : ¬ hi < x.toInt) (ho : offs[(x.toInt - lo).toNat]? = some off) (ht : (pc : Int) + off = (tgt : Int)) (k : zI C g nL cells slots X tgt lv st) : zI C g nL cells slots X pc lv (.int x :: st) := fun H locs ls hP hD hS hl => lv_tableIn hC.1 hC.2.1 hdg h1 h2 ho ht (k H locs ls hP hD hS hl)
theorem y_tswD {C : zC} {g : zG} {nL cells slots : Nat} {X : va_W} {pc : Nat} {lv : List (Nat × Value)} {st : List Value} {cc : ByteArray} {own : String} {Ts : List Cond} (hC : zX0 C cc nL own Ts g) {x : Int32} {d lo hi : Int} {offs : Array Int} {tgt len : Nat} (hdg : decode cc pc = .ok (.tableswitch d lo hi offs, len)) (h : x.toInt < lo ∨ hi < x.toInt) (ht : (pc : Int) + d = (tgt : Int)) (k : zI C g nL cells slots X tgt lv st) : zI C g nL cells slots X pc lv (.int x :: st) := fun H locs ls hP hD hS hl => lv_tableOut hC.1 hC.2.1 hdg h ht (k H locs ls hP hD hS hl)
variable {C : zC} {g : zG} {nL cells slots : Nat} {X : va_W} {pc : Nat} {lv : List (Nat × Value)} {st : List Value} {cc : ByteArray} {own : String} {w0 : Cond}
theorem y_getsN (hC : zX0 C cc nL own (w0 :: zU) g) {index : Nat} {host : String} (k : Nat) (hst : z_static g C.2.2.2.2.1 k) (hl : va_Nw (.fieldLinkNest own index "FlexibleBoxes" (z_sn k) "[I" host) C.2.2.2.2.1) (hdg : decode cc pc = .ok (.getstatic index, 3)) (kk : zI C g nL cells slots X (pc + 3) lv (.ref (g.2.2.2.1 k) :: st)) : zI C g nL cells slots X pc lv st :=
  fun H locs ls hP hD hS hl2 => va_getsN hC.1 hC.2.1 hst.1 hS hC.2.2.2.1 (va_Nw.use rfl hl) (fun _ h => h) hdg (kk H locs ls hP hD hS hl2)
theorem y_saN (hC : zX0 C cc nL own (w0 :: zU) g) (k i : Nat) {x : Int32} (hst : z_static g C.2.2.2.2.1 k) (hi : x = nI i) (hk : i < 20) (hdg : decode cc pc = .ok (.iaload, 1)) (kk : zI C g nL cells slots X (pc + 1) lv (.int (z_st k i) :: st)) : zI C g nL cells slots X pc lv (.int x :: .ref (g.2.2.2.1 k) :: st) := by
  subst hi
  have e : (nI i).toNatClampNeg = i := nI_clamp (by omega)
  exact y_sald hC k hst (vp_in_nI hk (by decide)) hdg (by rw [e]; exact kk)
/-- a field read -/
theorem y_get (hC : zX0 C cc nL own (w0 :: zU) g) {NN index a : Nat} {Cn : String} {Tn : u_T} {fs : List Value} {v : Value} (ci k q0 : Nat) (he : X[q0]? = some (a, .inr (ci, fs))) (hc : zCls[ci]? = some (Cn, Tn, NN)) (hin : ∀ w ∈ u_ws Cn Tn NN, w ∈ zU) (hk : k < NN) (hlink : Cond.fieldLink own index (Tn k).1 (Tn k).2.1 (Tn k).2.2.1 ∈ zU) (hv : fs[k]? = some v) (hdg : decode cc pc = .ok (.getfield index, 3)) (kk : zI C g nL cells slots X (pc + 3) lv (v :: st)) : zI C g nL cells slots X pc lv (.ref a :: st) :=
  fun H locs ls hP hD hS hl => va_get hC.1 hC.2.1 hC.2.2.2.2.1 (z_tI hin) hC.2.2.2.1 hC.2.2.2.2.2.1.1 hP q0 he hc k hk (hC.2.2.2.2.1 _ (z_tw hlink)) (fun _ h => h) hv hdg (kk H locs ls hP hD hS hl)
theorem y_put (hC : zX0 C cc nL own (w0 :: zU) g) {NN index a : Nat} {Cn : String} {Tn : u_T} {ty0 : Nat → FieldType} {fs : List Value} {v : Value} (ci k q0 : Nat) (he : X[q0]? = some (a, .inr (ci, fs))) (hc : zCls[ci]? = some (Cn, Tn, NN)) (hin : ∀ w ∈ u_ws Cn Tn NN, w ∈ zU) (hty : ∀ k, k < NN → parseFieldDescriptor (Tn k).2.2.1 = some (ty0 k)) (hnm : ∀ a, a < NN → ∀ b, b < NN → a ≠ b → (Tn a).2.1 ≠ (Tn b).2.1) (hk : k < NN) (hlink : Cond.fieldLink own index (Tn k).1 (Tn k).2.1 (Tn k).2.2.1 ∈ zU) (hfin : (Tn k).2.2.2 = false) (hn : narrow (ty0 k) v = v) (hfit : fits (ty0 k) v = true) (hl : k < fs.length) (hdg : decode cc pc = .ok (.putfield index, 3)) (kk : zI C g nL cells slots (X.set q0 (a, .inr (ci, fs.set k v))) (pc + 3) lv st) : zI C g nL cells slots X pc lv (v :: .ref a :: st) :=
  fun H locs ls hP hD hS hl2 => va_put hC.1 hC.2.1 hC.2.2.2.2.1 (z_tI hin) ty0 hty hnm hC.2.2.2.1 hC.2.2.2.2.2.1.1 hP hD hS q0 he hc k hk (hC.2.2.2.2.1 _ (z_tw hlink)) (fun _ h => h) hfin (hty k hk) hn hfit hl hdg (fun H1 locs1 hP1 hD1 hS1 => kk H1 locs1 ls hP1 hD1 hS1 hl2)
theorem y_putF (hC : zX0 C cc nL own (w0 :: zU) g) (hin9 : C.2.2.2.2.2.2.2.2.1.name = "<init>") {NN index a : Nat} {Cn : String} {Tn : u_T} {ty0 : Nat → FieldType} {fs : List Value} {v : Value} (ci k q0 : Nat) (he : X[q0]? = some (a, .inr (ci, fs))) (hc : zCls[ci]? = some (Cn, Tn, NN)) (hin : ∀ w ∈ u_ws Cn Tn NN, w ∈ zU) (hty : ∀ k, k < NN → parseFieldDescriptor (Tn k).2.2.1 = some (ty0 k)) (hnm : ∀ a, a < NN → ∀ b, b < NN → a ≠ b → (Tn a).2.1 ≠ (Tn b).2.1) (hk : k < NN) (hlink : Cond.fieldLink own index (Tn k).1 (Tn k).2.1 (Tn k).2.2.1 ∈ zU) (hfin : (Tn k).2.2.2 = true) (hdecl : (Tn k).1 = own) (hn : narrow (ty0 k) v = v) (hfit : fits (ty0 k) v = true) (hl : k < fs.length) (hdg : decode cc pc = .ok (.putfield index, 3)) (kk : zI C g nL cells slots (X.set q0 (a, .inr (ci, fs.set k v))) (pc + 3) lv st) : zI C g nL cells slots X pc lv (v :: .ref a :: st) :=
  fun H locs ls hP hD hS hl2 => va_putF hC.1 hC.2.1 hC.2.2.2.2.1 (z_tI hin) ty0 hty hnm hC.2.2.2.1 hC.2.2.2.2.2.1.1 hP hD hS q0 he hc k hk (hC.2.2.2.2.1 _ (z_tw hlink)) (fun _ h => h) hfin hin9 hdecl (hty k hk) hn hfit hl hdg (fun H1 locs1 hP1 hD1 hS1 => kk H1 locs1 ls hP1 hD1 hS1 hl2)
theorem z_AI {C : zC} {g : zG} {cc : ByteArray} {nL : Nat} {own : String} {Ts : List Cond} (hC : zX0 C cc nL own Ts g) : ∀ q, C.2.2.2.2.1.heap.size ≤ q → z_A g q := fun q h => Nat.le_trans hC.2.2.2.2.2.2.2 h
/-- a new object, at the head of the list -/
theorem y_new (hC : zX0 C cc nL own (w0 :: zU) g) {R0 : Room} {NN index : Nat} {Cn : String} {Tn : u_T} {ty0 : Nat → FieldType} {fs : List Value} (ci : Nat) (hc : zCls[ci]? = some (Cn, Tn, NN)) (hin : ∀ w ∈ u_ws Cn Tn NN, w ∈ zU) (hty : ∀ k, k < NN → parseFieldDescriptor (Tn k).2.2.1 = some (ty0 k)) (hcl : Cond.classLink own index Cn ∈ zU) (hinst : Cond.instantiable Cn NN ∈ zU) (hini : Cond.initialized Cn ∈ zU) (hfs : ∀ j, j < NN → defaultValue (ty0 j) = vp_V fs j) (hRm : C.2.2.2.1 = R0) (h1 : cells + 1 ≤ R0.cells) (h2 : slots + NN ≤ R0.slots) (hdg : decode cc pc = .ok (.new index, 3)) (kk : ∀ q, zI C g nL (cells + 1) (slots + NN) ((q, .inr (ci, fs)) :: X) (pc + 3) lv (.ref q :: st)) : zI C g nL cells slots X pc lv st :=
  fun H locs ls hP hD hS hl => va_new hC.1 hC.2.1 hC.2.2.2.2.1 (z_tI hin) ty0 hty hC.2.2.2.1 (hC.2.2.2.2.1 _ (z_tw hcl)) (hC.2.2.2.2.1 _ (z_tw hinst)) (hC.2.2.2.2.1 _ (z_tw hini)) hC.2.2.2.2.2.1.1 hP hD hS (z_AI hC) hc hfs (by rw [hRm]; exact h1) (by rw [hRm]; exact h2) hdg (fun q H1 hP1 hD1 hS1 => kk q H1 locs ls (va_P_perm va_snoc hP1) (va_D_perm va_snoc hD1) hS1 hl)
theorem z_cA {U : State} {g : zG} {cA : ClassId} {ty : FieldType} (t : Nat) (hK : va_K g.2.1 zCls (z_tys g ++ [(cA, ty)]) U) (ht : (z_tys g)[t]? = some (g.2.2.1 t, ty)) : cA = g.2.2.1 t := by
  have h1 := (hK.2 t _ (by rw [List.getElem?_append_left (List.getElem?_eq_some_iff.mp ht).1]; exact ht)).2
  have h2 := (hK.2 (z_tys g).length (cA, ty) (by rw [List.getElem?_append_right (Nat.le_refl _), Nat.sub_self]; rfl)).2
  cases ty with
  | object C =>
    obtain ⟨_, _, _, _, _, e1⟩ := h1
    obtain ⟨_, _, _, _, _, e2⟩ := h2
    exact Option.some.inj (e2.symm.trans e1)
  | _ => exact Option.some.inj ((show U.vm.findClass _ = some cA from h2).symm.trans h1)
/-- a new row of numbers -/
theorem y_newa (hC : zX0 C cc nL own (w0 :: zU) g) {R0 : Room} {atype : ArrayType} {ty : FieldType} {n : Int32} {N' : Nat} {z : (Nat → Int32) ⊕ (Nat → Int64) ⊕ (Nat → UInt32) ⊕ (Nat → UInt64) ⊕ (Nat → Option Nat)} (t : Nat) (harr : Cond.arrayClass (newarray.typeOf atype) ∈ zU) (hty : newarray.typeOf atype = ty) (ht : (z_tys g)[t]? = some (g.2.2.1 t, ty)) (ha : ∀ cA : ClassId, vp_cell cA (N', z) = arrV cA N' (fun _ => defaultValue ty)) (hn : ¬ n < 0) (hN : n.toNatClampNeg = N') (hb : N' * componentBytes ty ≤ 536870912) (hRm : C.2.2.2.1 = R0) (h1 : cells + 1 ≤ R0.cells) (h2 : slots + N' ≤ R0.slots) (hdg : decode cc pc = .ok (.newarray atype, 2)) (kk : ∀ q, zI C g nL (cells + 1) (slots + N') ((q, .inl (g.2.2.1 t, N', z)) :: X) (pc + 2) lv (.ref q :: st)) : zI C g nL cells slots X pc lv (.int n :: st) :=
  fun H locs ls hP hD hS hl => va_newa hC.1 hC.2.1 (hC.2.2.2.2.1 _ (z_tw harr)) hty hC.2.2.2.2.2.1.1 hP hD hS (z_AI hC) ha hn hN hb (by rw [hRm]; exact h1) (by rw [hRm]; exact h2) hdg (fun q cA H1 hK1 hP1 hD1 hS1 => by
    have e := z_cA t hK1 ht
    subst e
    exact kk q H1 locs ls (va_P_perm va_snoc hP1) (va_D_perm va_snoc hD1) hS1 hl)
/-- a new row of references -/
theorem y_newq (hC : zX0 C cc nL own (w0 :: zU) g) {R0 : Room} {Cn : String} {index : Nat} {n : Int32} {N' : Nat} (t : Nat) (hlk : Cond.classLink own index Cn ∈ zU) (hover : va_AO Cn C.2.2.2.2.1) (ht : (z_tys g)[t]? = some (g.2.2.1 t, .object Cn)) (hn : ¬ n < 0) (hN : n.toNatClampNeg = N') (hb : N' * 4 ≤ 536870912) (hRm : C.2.2.2.1 = R0) (h1 : cells + 1 ≤ R0.cells) (h2 : slots + N' ≤ R0.slots) (hdg : decode cc pc = .ok (.anewarray index, 3)) (kk : ∀ q, zI C g nL (cells + 1) (slots + N') ((q, .inl (g.2.2.1 t, N', .inr (.inr (.inr (.inr (fun _ => none)))))) :: X) (pc + 3) lv (.ref q :: st)) : zI C g nL cells slots X pc lv (.int n :: st) :=
  fun H locs ls hP hD hS hl => va_newq hC.1 hC.2.1 hC.2.2.2.1 (hC.2.2.2.2.1 _ (z_tw hlk)) hover hC.2.2.2.2.2.1.1 hP hD hS (z_AI hC) hn hN hb (by rw [hRm]; exact h1) (by rw [hRm]; exact h2) hdg (fun q cA H1 hK1 hP1 hD1 hS1 => by
    have e := z_cA t hK1 ht
    subst e
    exact kk q H1 locs ls (va_P_perm va_snoc hP1) (va_D_perm va_snoc hD1) hS1 hl)
/-- an object into a row -/
theorem y_aast (hC : zX0 C cc nL own (w0 :: zU) g) {a n v : Nat} {vs : List Value} {f : Nat → Option Nat} {r : vw_C} (t q0 qk ci i : Nat) (ha : X[q0]? = some (a, .inl (g.2.2.1 t, n, .inr (.inr (.inr (.inr f)))))) (ht : (z_tys g)[t]? = some (g.2.2.1 t, .object r.1)) (hv : X[qk]? = some (v, .inr (ci, vs))) (hc : zCls[ci]? = some r) {x : Int32} (hi : x = nI i) (hk : i < n) (hn : n < 2 ^ 31) (hdg : decode cc pc = .ok (.aastore, 1)) (kk : zI C g nL cells slots (X.set q0 (a, .inl (g.2.2.1 t, n, .inr (.inr (.inr (.inr (va_up f i (some v)))))))) (pc + 1) lv st) : zI C g nL cells slots X pc lv (.ref v :: .int x :: .ref a :: st) := by
  subst hi
  have e : (nI i).toNatClampNeg = i := nI_clamp (by omega)
  exact fun H locs ls hP hD hS hl => va_astq hC.1 hC.2.1 hC.2.2.2.2.2.1.1 hP hD hS q0 t qk ci ha ht hv hc (vp_in_nI hk hn) hdg (fun H1 locs1 hP1 hD1 hS1 => by
    rw [e] at hP1 hD1
    exact kk H1 locs1 ls hP1 hD1 hS1 hl)
theorem y_iast (hC : zX0 C cc nL own (w0 :: zU) g) {a n : Nat} {f : Nat → Int32} {x v : Int32} (q0 i : Nat) (ha : X[q0]? = some (a, .inl (g.2.2.1 0, n, .inl f))) (hi : x = nI i) (hk : i < n) (hn : n < 2 ^ 31) (hdg : decode cc pc = .ok (.iastore, 1)) (kk : zI C g nL cells slots (X.set q0 (a, .inl (g.2.2.1 0, n, .inl (upd f i v)))) (pc + 1) lv st) : zI C g nL cells slots X pc lv (.int v :: .int x :: .ref a :: st) := by
  subst hi
  have e : (nI i).toNatClampNeg = i := nI_clamp (by omega)
  exact fun H locs ls hP hD hS hl => va_iast hC.1 hC.2.1 hC.2.2.2.2.2.1.1 hP hD hS q0 0 ha rfl (vp_in_nI hk hn) hdg (fun H1 locs1 hP1 hD1 hS1 => by
    rw [e] at hP1 hD1
    exact kk H1 locs1 ls hP1 hD1 hS1 hl)
theorem y_iald (hC : zX0 C cc nL own (w0 :: zU) g) {a n : Nat} {f : Nat → Int32} {x v : Int32} (q0 i : Nat) (ha : X[q0]? = some (a, .inl (g.2.2.1 0, n, .inl f))) (hi : x = nI i) (hk : i < n) (hn : n < 2 ^ 31) (hv : f i = v) (hdg : decode cc pc = .ok (.iaload, 1)) (kk : zI C g nL cells slots X (pc + 1) lv (.int v :: st)) : zI C g nL cells slots X pc lv (.int x :: .ref a :: st) := by
  subst hi
  subst hv
  have e : (nI i).toNatClampNeg = i := nI_clamp (by omega)
  exact fun H locs ls hP hD hS hl => va_iald hC.1 hC.2.1 hC.2.2.2.2.2.1.1 hP q0 0 ha rfl (vp_in_nI hk hn) hdg (by rw [e]; exact kk H locs ls hP hD hS hl)
/-- Object's constructor -/
theorem y_obj (hC : zX0 C cc nL own (w0 :: zU) g) {R0 : Room} {index a : Nat} (hlk : Cond.methodLink own index objectInit ∈ zU) (hin : Cond.instanceMethod objectInit ∈ zU) (hcd : Cond.code objectInit ⟨#[0xb1]⟩ 1 none ∈ zU) (hRm : C.2.2.2.1 = R0) (h1 : 1 ≤ R0.frames) (h2 : (st.map fun v => v.category).sum + 12 ≤ R0.locals) (hdg : decode cc pc = .ok (.invokespecial index, 3)) (kk : zI C g nL cells slots X (pc + 3) lv st) : zI C g nL cells slots X pc lv (.ref a :: st) := fun H locs ls hP hD hS hl => by
  refine W.objInit hC.1 hC.2.1 hC.2.2.2.1 (hC.2.2.2.2.1 _ (z_tw hlk)) (hC.2.2.2.2.1 _ (z_tw hin)) (hC.2.2.2.2.1 _ (z_tw hcd)) rfl (by rw [hC.2.2.1]; exact hl.1) rfl hdg (by rw [hRm]; exact h1) (by rw [hRm]; show 2 * 0 + _ + 12 ≤ _; omega) ?_
  exact kk H locs ls hP hD hS hl
/-! contracts over lists of cells -/
def z_QI (g : zG) (R : Option Value → va_W → Prop) : Array Value → State → Outcome → State → Prop := fun _ st oc t => (∃ v Y, oc = .returned v ∧ R v Y ∧ va_P g.2.1 zCls Y t.heap ∧ va_D (z_A g) Y) ∧ va_F (z_A g) st t
def z_CtI (l : Launch) (y : MethodName) (ws : List Cond) (rm : Room) (g : zG) (av : List Value) (X : va_W) (R : Option Value → va_W → Prop) (mc ms : Nat) : Prop :=
  Met l y ws rm (va_Pc av (fun U => va_P g.2.1 zCls X U.heap ∧ va_D (z_A g) X ∧ z_KI g U)) (z_QI g R) mc ms (z_A g)
def zEI (C : zC) (g : zG) (mc ms : Nat) (ret : Option FieldType) (R : Option Value → va_W → Prop) : Prop := C.2.2.2.2.2.2.2.2.1.sig.returnType = ret ∧ C.2.2.2.2.2.2.2.2.1.locks = false ∧ C.2.2.2.2.2.2.2.2.2.2 = MQ C.2.2.2.2.2.2.2.1 (z_QI g R) C.2.2.2.2.2.2.1 C.2.2.2.2.1 mc ms (z_A g)
variable {R : Option Value → va_W → Prop} {mc ms : Nat}
theorem y_vret {Ts : List Cond} (hC : zX0 C cc nL own Ts g) (hE : zEI C g mc ms none R) (hdg : decode cc pc = .ok (.return_, 1)) (hp : R none X) : zI C g nL mc ms X pc lv [] := fun H locs ls hP hD hS hl => by
  unfold zWc
  rw [hE.2.2]
  exact W.vret hC.1 hC.2.1 hE.1 (fun t ht hW => ⟨⟨_, X, rfl, hp, by rw [ht]; exact hP, hD⟩, hS.F ht⟩) hS.2.2 hdg hE.2.1
theorem y_iret {Ts : List Cond} (hC : zX0 C cc nL own Ts g) {v : Int32} (hE : zEI C g mc ms (some .int) R) (hdg : decode cc pc = .ok (.ireturn, 1)) (hp : R (some (.int v)) X) : zI C g nL mc ms X pc lv [.int v] := fun H locs ls hP hD hS hl => by
  unfold zWc
  rw [hE.2.2]
  exact W.iret hC.1 hC.2.1 hE.1 (fun t ht hW => ⟨⟨_, X, rfl, hp, by rw [ht]; exact hP, hD⟩, hS.F ht⟩) hS.2.2 hdg hE.2.1
theorem y_of {l : Launch} {y : MethodName} {rm : Room} {av : List Value} {maxL : Nat} {ret : Option FieldType} (hy : plainName y.cls = true) (hn : (lg_sl av).length ≤ maxL) {lv0 : List (Nat × Value)} (hl0 : lv_args 0 av = lv0)
    (body : ∀ C : zC, C.2.1 = l → zX0 C cc maxL y.cls (zT y cc maxL ret) g → zEI C g mc ms ret R → C.2.2.2.1 = rm → C.2.2.2.2.2.2.2.2.1.name = y.name → zI C g maxL 0 0 X 0 lv0 []) : z_CtI l y (zT y cc maxL ret) rm g av X R mc ms := by
  subst hl0
  refine Met.ofW (cc := cc) (maxL := maxL) (ret := ret) hy rfl ?_
  intro p e s m args below meth c s₁ B hml hv
  obtain ⟨rfl, hP, hD, hK⟩ := hv
  have hts := atoms_spec (ws := zT y cc maxL ret) B.pre
  have hown : s.vm.findClass y.cls = some m.cls := findClass_of_methodNamed B.named
  have h := body (p, l, e, (headSpec (zT y cc maxL ret) rm).room, s, m, av.toArray, below, meth, c, MQ below (z_QI g R) av.toArray s mc ms (z_A g)) rfl ⟨B.exec, B.bytes, hml, hown, hts, hK⟩ ⟨B.returns, B.notSynchronized, rfl⟩ rfl (name_of_methodNamed B.named B.method).1
  rw [lg_entry_eq]
  exact h s.heap [] _ hP hD va_S.rf (lv_entry av hn)
/-- what a call gives -/
theorem y_run {a : Array Value} {st0 rest : List Value} {H : Heap} {locs : List Loc} {ls : Array Slot} (hr : va_Run C.1 C.2.1 C.2.2.1 C.2.2.2.1 C.2.2.2.2.1 C.2.2.2.2.2.1 C.2.2.2.2.2.2.1 C.2.2.2.2.2.2.2.1 C.2.2.2.2.2.2.2.2.1 C.2.2.2.2.2.2.2.2.2.1 H locs cells slots mc ms (F0 C.2.2.2.2.2.1 pc ls st0) rest (z_QI g R a) (z_A g)) (hS : va_S (z_A g) C.2.2.2.2.1.heap H locs)
    (kk : ∀ (v : Option Value) (Y : va_W) (H1 : Heap) (locs1 : List Loc), R v Y → va_P g.2.1 zCls Y H1 → va_D (z_A g) Y → va_S (z_A g) C.2.2.2.2.1.heap H1 locs1 → zWc C H1 locs1 (cells + mc) (slots + ms) (F0 C.2.2.2.2.2.1 (pc + 3) ls (v.toList ++ rest))) : zWc C H locs cells slots (F0 C.2.2.2.2.2.1 pc ls st0) := by
  intro T hT Xs
  obtain ⟨v, st₀, t, T', L, h0, X', hL, e1, e2, ⟨⟨v', Y, hv, hp, hb, hd⟩, hz, hk⟩, stp⟩ := hr T hT Xs
  cases hv
  rw [h0] at hz hk
  obtain ⟨t2, a1, b1⟩ := kk v Y T'.heap (locs ++ L) hp (by rw [e1]; exact hb) hd
    ⟨Nat.le_trans hS.1 (by rw [e1]; exact hz), fun q h1 h2 => by rw [e1, hk q (Nat.lt_of_lt_of_le h1 hS.1) h2]; exact hS.2.1 q h1 h2, fun q hq => by
      rcases List.mem_append.mp hq with h | h
      · exact hS.2.2 q h
      · exact hL q h⟩ T' rfl X'
  exact ⟨t2, stp t2 a1, b1⟩
/-- what a constructor's call needs to know -/
def z_pkI (y : MethodName) (cc : ByteArray) (maxL : Nat) (n : Nat) : Prop := Cond.instanceMethod y ∈ zU ∧ Cond.initialized y.cls ∈ zU ∧ Cond.code y cc maxL none ∈ zU ∧ y.name = "<init>" ∧ (y.cls ≠ "java/lang/invoke/MethodHandle" ∧ y.cls ≠ "java/lang/invoke/VarHandle" ∧ (parseMethodDescriptor y.desc).map (fun d => d.parameters.length) = some n)
theorem y_callI (hC : zX0 C cc nL own (w0 :: zU) g) {y : MethodName} {bytes : ByteArray} {maxL n index b : Nat} {rm R0 : Room} {stk : List Value} (As : List Value)
    (hM : z_CtI C.2.1 y (zT y bytes maxL none) rm g (.ref b :: As) X R mc ms) (hp : z_pkI y bytes maxL n) (hl : Cond.methodLink own index y ∈ zU)
    (hrm : rm.cells = mc ∧ rm.slots = ms) (hn : As.length = n) (hst : stk = As.reverse ++ .ref b :: st) (hRm : C.2.2.2.1 = R0) (hR : rm.frames + 1 ≤ R0.frames ∧ 8 + (maxL + 11) + rm.locals ≤ R0.locals) (hW : (st.map fun v => v.category).sum ≤ 8) (hf : cells + mc ≤ R0.cells ∧ slots + ms ≤ R0.slots) (hdg : decode cc pc = .ok (.invokespecial index, 3))
    (kk : ∀ v Y, R v Y → zI C g nL (cells + mc) (slots + ms) Y (pc + 3) lv (v.toList ++ st)) : zI C g nL cells slots X pc lv stk := by
  intro H locs ls hP hD hS hl2
  subst hst
  have hb : ∀ w ∈ zU, w ∈ w0 :: zU := fun w h => List.mem_cons_of_mem _ h
  have hG : GoodIn (w0 :: zU) (zT y bytes maxL none) := z_goodL hb fun w hw => by
    rcases List.mem_cons.mp hw with rfl | hw
    · exact hp.2.2.1
    · exact hw
  refine y_run (va_runI (b := b) (As := As) (rest := st) ⟨hC.1, hC.2.1, hC.2.2.1, hC.2.2.2.1, hC.2.2.2.2.1⟩ hM (cwI n hC.2.2.2.2.1 hG rfl hrm.1 hrm.2 (hC.2.2.2.2.1 _ (hb _ hp.2.1)) (hC.2.2.2.2.1 _ (hb _ hl)) (hC.2.2.2.2.1 _ (hb _ hp.1)) hp.2.2.2.1 hp.2.2.2.2 (by rw [hRm]; exact hR)) ⟨fun a U f mk q => ⟨q.1, q.2.1, q.2.2.1, q.2.2.2.calling f mk a⟩, fun U hU hWm => ⟨rfl, by rw [hU]; exact hP, hD, hC.2.2.2.2.2.at hWm hU hS⟩⟩ rfl hn hl2.1 rfl (by show 2 * 0 + _ ≤ 8; omega) hdg (by rw [hRm]; exact hf)) hS ?_
  intro v Y H1 locs1 hpost hP1 hD1 hS1
  exact kk v Y hpost H1 locs1 ls hP1 hD1 hS1 hl2
theorem y_callIN (hC : zX0 C cc nL own (w0 :: zU) g) {y : MethodName} {bytes : ByteArray} {maxL n index b : Nat} {rm R0 : Room} {stk : List Value} {host : String} (As : List Value)
    (hM : z_CtI C.2.1 y (zT y bytes maxL none) rm g (.ref b :: As) X R mc ms) (hp : z_pkI y bytes maxL n) (hl : va_Nw (.methodLinkNest own index y host) C.2.2.2.2.1)
    (hrm : rm.cells = mc ∧ rm.slots = ms) (hn : As.length = n) (hst : stk = As.reverse ++ .ref b :: st) (hRm : C.2.2.2.1 = R0) (hR : rm.frames + 1 ≤ R0.frames ∧ 8 + (maxL + 11) + rm.locals ≤ R0.locals) (hW : (st.map fun v => v.category).sum ≤ 8) (hf : cells + mc ≤ R0.cells ∧ slots + ms ≤ R0.slots) (hdg : decode cc pc = .ok (.invokespecial index, 3))
    (kk : ∀ v Y, R v Y → zI C g nL (cells + mc) (slots + ms) Y (pc + 3) lv (v.toList ++ st)) : zI C g nL cells slots X pc lv stk := by
  intro H locs ls hP hD hS hl2
  subst hst
  have hb : ∀ w ∈ zU, w ∈ w0 :: zU := fun w h => List.mem_cons_of_mem _ h
  have hG : GoodIn (w0 :: zU) (zT y bytes maxL none) := z_goodL hb fun w hw => by
    rcases List.mem_cons.mp hw with rfl | hw
    · exact hp.2.2.1
    · exact hw
  refine y_run (va_runIN (b := b) (As := As) (rest := st) ⟨hC.1, hC.2.1, hC.2.2.1, hC.2.2.2.1, hC.2.2.2.2.1⟩ hM ⟨va_cnB n hC.2.2.2.2.1 hG rfl hrm.1 hrm.2 hl (hC.2.2.2.2.1 _ (hb _ hp.2.1)) hp.2.2.2.2 (by rw [hRm]; exact hR), hp.2.2.2.1, hC.2.2.2.2.1 _ (hb _ hp.1)⟩ ⟨fun a U f mk q => ⟨q.1, q.2.1, q.2.2.1, q.2.2.2.calling f mk a⟩, fun U hU hWm => ⟨rfl, by rw [hU]; exact hP, hD, hC.2.2.2.2.2.at hWm hU hS⟩⟩ rfl hn hl2.1 rfl (by show 2 * 0 + _ ≤ 8; omega) hdg (by rw [hRm]; exact hf)) hS ?_
  intro v Y H1 locs1 hpost hP1 hD1 hS1
  exact kk v Y hpost H1 locs1 ls hP1 hD1 hS1 hl2
theorem y_callV (hC : zX0 C cc nL own (w0 :: zU) g) {y : MethodName} {bytes : ByteArray} {maxL n index b : Nat} {ret : Option FieldType} {Cn : String} {Tn : u_T} {NN ci q0 : Nat} {rm R0 : Room} {stk : List Value} {fs : List Value} (As : List Value)
    (hM : z_CtI C.2.1 y (zT y bytes maxL ret) rm g (.ref b :: As) X R mc ms) (he : X[q0]? = some (b, .inr (ci, fs))) (hc : zCls[ci]? = some (Cn, Tn, NN)) (hp : z_pkV y bytes maxL ret Cn n) (hl : Cond.methodLink own index y ∈ zU)
    (hrm : rm.cells = mc ∧ rm.slots = ms) (hn : As.length = n) (hst : stk = As.reverse ++ .ref b :: st) (hRm : C.2.2.2.1 = R0) (hR : rm.frames + 1 ≤ R0.frames ∧ 8 + (maxL + 11) + rm.locals ≤ R0.locals) (hW : (st.map fun v => v.category).sum ≤ 8) (hf : cells + mc ≤ R0.cells ∧ slots + ms ≤ R0.slots) (hdg : decode cc pc = .ok (.invokevirtual index, 3))
    (kk : ∀ v Y, R v Y → zI C g nL (cells + mc) (slots + ms) Y (pc + 3) lv (v.toList ++ st)) : zI C g nL cells slots X pc lv stk := by
  intro H locs ls hP hD hS hl2
  subst hst
  refine y_run (va_runV (b := b) (As := As) (rest := st) ⟨hC.1, hC.2.1, hC.2.2.1, hC.2.2.2.1, hC.2.2.2.2.1⟩ hM (cwV n hC.2.2.2.2.1 (z_goodV (fun w h => List.mem_cons_of_mem _ h) hl hp) rfl hrm.1 hrm.2 hp.2.2.2.2 (by rw [hRm]; exact hR)) ⟨fun a U f mk q => ⟨q.1, q.2.1, q.2.2.1, q.2.2.2.calling f mk a⟩, va_recv hC.2.2.2.2.2.1.1 hP hc (q0 := q0) he, fun U hU hWm => ⟨rfl, by rw [hU]; exact hP, hD, hC.2.2.2.2.2.at hWm hU hS⟩⟩ rfl hn hl2.1 rfl (by show 2 * 0 + _ ≤ 8; omega) hdg (by rw [hRm]; exact hf)) hS ?_
  intro v Y H1 locs1 hpost hP1 hD1 hS1
  exact kk v Y hpost H1 locs1 ls hP1 hD1 hS1 hl2
theorem y_callS (hC : zX0 C cc nL own (w0 :: zU) g) {y : MethodName} {bytes : ByteArray} {maxL n index : Nat} {ret : Option FieldType} {rm R0 : Room} {stk : List Value} (As : List Value)
    (hM : z_CtI C.2.1 y (zT y bytes maxL ret) rm g As X R mc ms) (hp : z_pkS y bytes maxL ret n) (hl : Cond.methodLink own index y ∈ zU)
    (hrm : rm.cells = mc ∧ rm.slots = ms) (hn : As.length = n) (hst : stk = As.reverse ++ st) (hRm : C.2.2.2.1 = R0) (hR : rm.frames + 1 ≤ R0.frames ∧ 8 + (maxL + 11) + rm.locals ≤ R0.locals) (hW : (st.map fun v => v.category).sum ≤ 8) (hf : cells + mc ≤ R0.cells ∧ slots + ms ≤ R0.slots) (hdg : decode cc pc = .ok (.invokestatic index, 3))
    (kk : ∀ v Y, R v Y → zI C g nL (cells + mc) (slots + ms) Y (pc + 3) lv (v.toList ++ st)) : zI C g nL cells slots X pc lv stk := by
  intro H locs ls hP hD hS hl2
  subst hst
  refine y_run (va_runS (As := As) (rest := st) ⟨hC.1, hC.2.1, hC.2.2.1, hC.2.2.2.1, hC.2.2.2.2.1⟩ hM (va_cwS n hC.2.2.2.2.1 (z_goodS (fun w h => List.mem_cons_of_mem _ h) hl hp) rfl hrm.1 hrm.2 hp.2.2.2 (by rw [hRm]; exact hR)) ⟨fun a U f mk q => ⟨q.1, q.2.1, q.2.2.1, q.2.2.2.calling f mk a⟩, fun U hU hWm => ⟨rfl, by rw [hU]; exact hP, hD, hC.2.2.2.2.2.at hWm hU hS⟩⟩ rfl hn hl2.1 rfl (by show 2 * 0 + _ ≤ 8; omega) hdg (by rw [hRm]; exact hf)) hS ?_
  intro v Y H1 locs1 hpost hP1 hD1 hS1
  exact kk v Y hpost H1 locs1 ls hP1 hD1 hS1 hl2
end ZCN
