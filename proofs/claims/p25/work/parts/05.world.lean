/-! THE WORLD: every cell that the law makes and that lives on has a number (id); ids 0..39 the boxes, 40..79 their styles, 80 FlexibleBoxes, 81 Tree, 82 Layout, 83 Flex, 84 boxes, 85 slots, 86..94 the arrays of Flex, 95..99 the law's five int[6]. Memory: I (ints by id and place), P (references by id and place, as ids), J (longs). -/
abbrev zG : Type := (Nat → Nat) × va_G × (Nat → ClassId) × (Nat → Nat) × Nat
/-- Box, Flex, Layout, Tree (twice: place 3 is nobody's), Tree, FlexibleBoxes -/
abbrev zCls : List vw_C := [(RX0, TX0, 18), (RX1, TX1, 11), (RX2, TX2, 3), (RX4, TX4, 5), (RX4, TX4, 5), (RX5, TX5, 3)]
def z_tab : List (Bool × Nat × Nat) := [(false, 5, 0), (false, 4, 0), (false, 2, 0), (false, 1, 0), (true, 3, 40), (true, 4, 2), (true, 0, 40), (true, 0, 40), (true, 0, 40), (true, 0, 40), (true, 0, 40), (true, 0, 40), (true, 0, 40), (true, 0, 40), (true, 1, 40), (true, 0, 6), (true, 0, 6), (true, 0, 6), (true, 0, 6), (true, 0, 6)]
/-- the shape of the cell of an id: an object (of a place in zCls), or an array (kind, length): 0 int, 1 boolean, 2 long, 3 Box, 4 Snapshot, 5 int[] -/
def z_sh (id : Nat) : Bool × Nat × Nat := if id < 40 then (false, 0, 0) else if id < 80 then (true, 0, 20) else z_tab.getD (id - 80) (true, 0, 6)
/-- the kinds of the fields: 0 int or boolean, 1 a reference that changes, 2 one that doesn't -/
def z_ft (ci : Nat) : List Nat := match ci with
  | 0 => [0, 2, 0, 1, 0, 0, 1, 1, 0, 1, 0, 0, 0, 0, 0, 0, 0, 0]
  | 1 => [2, 2, 2, 2, 2, 2, 2, 2, 2, 0, 0]
  | 2 => [2, 2, 0]
  | 3 => [2, 2, 2, 0, 0, 0]
  | 4 => [2, 2, 0, 0, 0]
  | 5 => [2, 2, 2]
  | _ => [2, 2, 2, 0, 2, 0, 2, 2, 2, 2, 2, 2, 2, 2, 2, 2]
/-- where a reference that doesn't change leads -/
def z_fx (id k : Nat) : Nat := if id < 40 then 40 + id else if id = 80 then [81, 82, 85].getD k 0 else if id = 81 then [84, 0].getD k 0 else if id = 82 then [81, 83].getD k 0 else if id = 83 then 86 + k else id + 1 + k
def z_val (g : zG) (I : Nat → Nat → Int32) (P : Nat → Nat → Option Nat) (id k t : Nat) : Value := if t = 0 then .int (I id k) else if t = 1 then va_rf ((P id k).map g.1) else .ref (g.1 (z_fx id k))
def z_ob (g : zG) (I : Nat → Nat → Int32) (P : Nat → Nat → Option Nat) (id ci : Nat) : List Value := (z_ft ci).mapIdx (fun k t => z_val g I P id k t)
def z_el (g : zG) (P : Nat → Nat → Option Nat) (id t j : Nat) : Option Nat := if t = 3 then some (g.1 j) else if t = 4 then (P id j).map g.1 else some (g.1 (id + 1 + j))
def z_ar (g : zG) (I : Nat → Nat → Int32) (P : Nat → Nat → Option Nat) (J : Nat → Nat → Int64) (id t n : Nat) : va_E := .inl (g.2.2.1 t, n, if t ≤ 1 then .inl (I id) else if t = 2 then .inr (.inl (J id)) else .inr (.inr (.inr (.inr (z_el g P id t)))))
def z_cn (g : zG) (I : Nat → Nat → Int32) (P : Nat → Nat → Option Nat) (J : Nat → Nat → Int64) (id : Nat) : va_E := if (z_sh id).1 = false then .inr ((z_sh id).2.1, z_ob g I P id (z_sh id).2.1) else z_ar g I P J id (z_sh id).2.1 (z_sh id).2.2
def z_wl (g : zG) (N : Nat) (I : Nat → Nat → Int32) (P : Nat → Nat → Option Nat) (J : Nat → Nat → Int64) : va_W := (List.range N).map (fun id => (g.1 id, z_cn g I P J id))
/-- f, but v at place k of id -/
def z_u {α : Type} (f : Nat → Nat → α) (i k : Nat) (v : α) : Nat → Nat → α := fun a b => if a = i ∧ b = k then v else f a b
theorem z_u_s {α : Type} (f : Nat → Nat → α) (i k : Nat) (v : α) : z_u f i k v i k = v := if_pos ⟨rfl, rfl⟩
theorem z_u_a {α : Type} (f : Nat → Nat → α) {i k a b : Nat} (v : α) (h : a ≠ i) : z_u f i k v a b = f a b := if_neg (fun z => h z.1)
theorem z_u_b {α : Type} (f : Nat → Nat → α) {i k a b : Nat} (v : α) (h : b ≠ k) : z_u f i k v a b = f a b := if_neg (fun z => h z.2)
theorem z_u_r {α : Type} (f : Nat → Nat → α) {i k a : Nat} (v : α) (h : a ≠ i) : z_u f i k v a = f a := funext fun b => z_u_a f v h
theorem z_u_upd (f : Nat → Nat → Int32) (i k : Nat) (v : Int32) : z_u f i k v i = upd (f i) k v := by
  funext b
  simp [z_u, upd]
theorem z_u_updL (f : Nat → Nat → Int64) (i k : Nat) (v : Int64) : z_u f i k v i = vp_updL (f i) k v := by
  funext b
  simp [z_u, vp_updL]
theorem z_wl_get {g : zG} {N : Nat} {I : Nat → Nat → Int32} {P : Nat → Nat → Option Nat} {J : Nat → Nat → Int64} {id : Nat} (h : id < N) : (z_wl g N I P J)[id]? = some (g.1 id, z_cn g I P J id) := by
  unfold z_wl
  rw [List.getElem?_map, List.getElem?_range h]
  rfl
theorem z_wl_len {g : zG} {N : Nat} {I : Nat → Nat → Int32} {P : Nat → Nat → Option Nat} {J : Nat → Nat → Int64} : (z_wl g N I P J).length = N := by
  unfold z_wl
  rw [List.length_map, List.length_range]
theorem z_wl_set {g : zG} {N : Nat} {I I' : Nat → Nat → Int32} {P P' : Nat → Nat → Option Nat} {J J' : Nat → Nat → Int64} {id : Nat} {e : va_E} (h : id < N) (he : e = z_cn g I' P' J' id) (ho : ∀ j, j ≠ id → z_cn g I' P' J' j = z_cn g I P J j) : (z_wl g N I P J).set id (g.1 id, e) = z_wl g N I' P' J' := by
  apply List.ext_getElem?
  intro j
  by_cases hj : j = id
  · subst hj
    rw [List.getElem?_set_self (by rw [z_wl_len]; exact h), z_wl_get h, he]
  · rw [List.getElem?_set_ne (Ne.symm hj)]
    by_cases hl : j < N
    · rw [z_wl_get hl, z_wl_get hl, ho j hj]
    · rw [List.getElem?_eq_none (by rw [z_wl_len]; omega), List.getElem?_eq_none (by rw [z_wl_len]; omega)]
theorem z_cn_congr {g : zG} {I I' : Nat → Nat → Int32} {P P' : Nat → Nat → Option Nat} {J J' : Nat → Nat → Int64} {id : Nat} (hI : I' id = I id) (hP : P' id = P id) (hJ : J' id = J id) : z_cn g I' P' J' id = z_cn g I P J id := by
  have e1 : ∀ ci, z_ob g I' P' id ci = z_ob g I P id ci := fun ci => by
    unfold z_ob z_val
    rw [hI, hP]
  have e2 : ∀ t, z_el g P' id t = z_el g P id t := fun t => by
    funext j
    unfold z_el
    rw [hP]
  unfold z_cn z_ar
  rw [e1, e2, hI, hJ]
theorem z_cn_ob {g : zG} {I : Nat → Nat → Int32} {P : Nat → Nat → Option Nat} {J : Nat → Nat → Int64} {id ci : Nat} (h : z_sh id = (false, ci, 0)) : z_cn g I P J id = .inr (ci, z_ob g I P id ci) := by
  unfold z_cn
  rw [h]
  rfl
theorem z_cn_ar {g : zG} {I : Nat → Nat → Int32} {P : Nat → Nat → Option Nat} {J : Nat → Nat → Int64} {id t n : Nat} (h : z_sh id = (true, t, n)) : z_cn g I P J id = z_ar g I P J id t n := by
  unfold z_cn
  rw [h]
  rfl
theorem z_ob_get {g : zG} {I : Nat → Nat → Int32} {P : Nat → Nat → Option Nat} {id ci k t : Nat} (h : (z_ft ci)[k]? = some t) : (z_ob g I P id ci)[k]? = some (z_val g I P id k t) := by
  unfold z_ob
  rw [List.getElem?_mapIdx, h]
  rfl
theorem z_ob_set {g : zG} {I I' : Nat → Nat → Int32} {P P' : Nat → Nat → Option Nat} {id ci k t : Nat} {v : Value} (h : (z_ft ci)[k]? = some t) (hv : v = z_val g I' P' id k t) (ho : ∀ j, j ≠ k → I' id j = I id j ∧ P' id j = P id j) : (z_ob g I P id ci).set k v = z_ob g I' P' id ci := by
  have hl : k < (z_ob g I P id ci).length := by
    unfold z_ob
    rw [List.length_mapIdx]
    exact (List.getElem?_eq_some_iff.mp h).1
  apply List.ext_getElem?
  intro j
  by_cases hj : j = k
  · subst hj
    rw [List.getElem?_set_self hl, z_ob_get h, hv]
  · rw [List.getElem?_set_ne (Ne.symm hj)]
    unfold z_ob
    rw [List.getElem?_mapIdx, List.getElem?_mapIdx]
    cases (z_ft ci)[j]? with
    | none => rfl
    | some t' =>
      show some (z_val g I P id j t') = some (z_val g I' P' id j t')
      unfold z_val
      rw [(ho j hj).1, (ho j hj).2]
/-- the addresses: apart, and made since the law began -/
def z_A (g : zG) : Nat → Prop := fun q => g.2.2.2.2 ≤ q
def z_gd (g : zG) (N : Nat) : Prop := 100 ≤ N ∧ (∀ i j, i < N → j < N → g.1 i = g.1 j → i = j) ∧ ∀ i, i < N → g.2.2.2.2 ≤ g.1 i
theorem z_D {g : zG} {N : Nat} {I : Nat → Nat → Int32} {P : Nat → Nat → Option Nat} {J : Nat → Nat → Int64} (h : z_gd g N) : va_D (z_A g) (z_wl g N I P J) := by
  have key : ∀ (i : Nat) (p : Nat × va_E), (z_wl g N I P J)[i]? = some p → i < N ∧ p.1 = g.1 i := fun i p hp => by
    have hi : i < N := by
      have := (List.getElem?_eq_some_iff.mp hp).1
      rw [z_wl_len] at this
      exact this
    rw [z_wl_get hi] at hp
    cases hp
    exact ⟨hi, rfl⟩
  refine ⟨fun i j p q hi hj hpq => ?_, fun k q hk => ?_⟩
  · obtain ⟨h1, e1⟩ := key i p hi
    obtain ⟨h2, e2⟩ := key j q hj
    exact h.2.1 i j h1 h2 (by rw [← e1, ← e2]; exact hpq)
  · obtain ⟨h1, e1⟩ := key k q hk
    show g.2.2.2.2 ≤ q.1
    rw [e1]
    exact h.2.2 k h1
def z_tys (g : zG) : List (ClassId × FieldType) := [(g.2.2.1 0, .int), (g.2.2.1 1, .boolean), (g.2.2.1 2, .int), (g.2.2.1 3, .object "FlexibleBoxes$Box"), (g.2.2.1 4, .object "FlexibleBoxes$Snapshot")]
/-- the three static rows: 0 LEAST, 1 GREATEST, 2 FIRST -/
def z_st (k : Nat) : Nat → Int32 := fun p => ((match k with
  | 0 => [0, 0, 0, 0, 0, 0, 0, -1, 0, 0, -1, -1, 0, 0, 0, 0, -1, -9, 0, 0]
  | 1 => [1, 1, 4, 3, 50, 50, 50, 1000, 9, 9, 1000, 1000, 1000, 1000, 10000, 10000, 3, 9, 1, 500]
  | _ => [0, 0, 0, 3, 0, 0, 0, -1, 0, 1, -1, -1, 0, 0, 10000, 10000, -1, 0, 0, 0] : List Int32)).getD p 0
def z_sn (k : Nat) : String := match k with
  | 0 => "LEAST"
  | 1 => "GREATEST"
  | _ => "FIRST"
def z_static (g : zG) (U : State) (k : Nat) : Prop := va_Z "FlexibleBoxes" (z_sn k) "[I" (.ref (g.2.2.2.1 k)) (z_A g) U U.heap ∧ va_X (g.2.2.2.1 k) 20 (z_st k) U U.heap ∧ g.2.2.2.1 k < U.heap.size ∧ ¬ z_A g (g.2.2.2.1 k)
/-- what a method's start knows of the machine and of what nobody writes -/
def z_K (g : zG) (U : State) : Prop := va_K g.2.1 zCls (z_tys g) U ∧ z_static g U 0 ∧ z_static g U 1 ∧ z_static g U 2 ∧ z_nest U
def z_W (g : zG) (N : Nat) (I : Nat → Nat → Int32) (P : Nat → Nat → Option Nat) (J : Nat → Nat → Int64) (U : State) : Prop := va_P g.2.1 zCls (z_wl g N I P J) U.heap ∧ z_K g U ∧ z_gd g N
theorem z_static.moved {g : zG} {k : Nat} {s U : State} (hvm : s.vm.Alike U.vm) (hz : s.heap.size ≤ U.heap.size) (hk : ∀ q, q < s.heap.size → ¬ z_A g q → U.heap[q]? = s.heap[q]?) (h : z_static g s k) : z_static g U k := by
  obtain ⟨h1, h2, h3, h4⟩ := h
  exact ⟨(h1.moved hvm).kept hk, (h2.moved hvm).kept (hk _ h3 h4), Nat.lt_of_lt_of_le h3 hz, h4⟩
theorem z_K.at {g : zG} {s U : State} {H : Heap} {locs : List Loc} (hW : s.WarmedH U.vm) (hU : U.heap = H) (hS : va_S (z_A g) s.heap H locs) (h : z_K g s) : z_K g U := by
  have hz : s.heap.size ≤ U.heap.size := by rw [hU]; exact hS.1
  have hk : ∀ q, q < s.heap.size → ¬ z_A g q → U.heap[q]? = s.heap[q]? := fun q h1 h2 => by rw [hU]; exact hS.2.1 q h1 h2
  exact ⟨va_K.moved hW.alike h.1, h.2.1.moved hW.alike hz hk, h.2.2.1.moved hW.alike hz hk, h.2.2.2.1.moved hW.alike hz hk, h.2.2.2.2.warm hW⟩
theorem z_K.calling {g : zG} {U : State} (f : JFrame) (mk : MethodId) (a : Array Value) (h : z_K g U) : z_K g (U.calling f mk a) :=
  ⟨va_K.moved (U := U.calling f mk a) (Vm.Alike.refl U.vm) h.1, h.2.1.moved (U := U.calling f mk a) (Vm.Alike.refl U.vm) (Nat.le_refl _) (fun _ _ _ => rfl), h.2.2.1.moved (U := U.calling f mk a) (Vm.Alike.refl U.vm) (Nat.le_refl _) (fun _ _ _ => rfl), h.2.2.2.1.moved (U := U.calling f mk a) (Vm.Alike.refl U.vm) (Nat.le_refl _) (fun _ _ _ => rfl), z_nest.same (U := U.calling f mk a) rfl h.2.2.2.2⟩
theorem z_W.calling {g : zG} {N : Nat} {I : Nat → Nat → Int32} {P : Nat → Nat → Option Nat} {J : Nat → Nat → Int64} {U : State} (f : JFrame) (mk : MethodId) (a : Array Value) (h : z_W g N I P J U) : z_W g N I P J (U.calling f mk a) :=
  ⟨h.1, h.2.1.calling f mk a, h.2.2⟩
/-- a method's end: what it answers and what the memory is then -/
def z_Q (g : zG) (N : Nat) (post : Option Value → (Nat → Nat → Int32) → (Nat → Nat → Option Nat) → (Nat → Nat → Int64) → Prop) : Array Value → State → Outcome → State → Prop := fun _ st oc t => (∃ v I P J, oc = .returned v ∧ post v I P J ∧ va_P g.2.1 zCls (z_wl g N I P J) t.heap) ∧ va_F (z_A g) st t
/-- a method's contract: from the memory I P J with the arguments av -/
def z_Ct (l : Launch) (y : MethodName) (ws : List Cond) (rm : Room) (g : zG) (N : Nat) (I : Nat → Nat → Int32) (P : Nat → Nat → Option Nat) (J : Nat → Nat → Int64) (av : List Value) (post : Option Value → (Nat → Nat → Int32) → (Nat → Nat → Option Nat) → (Nat → Nat → Int64) → Prop) (mc ms : Nat) : Prop :=
  Met l y ws rm (va_Pc av (fun U => z_W g N I P J U)) (z_Q g N post) mc ms (z_A g)
/-- program, launch, environment, room, state, method, arguments, frames below, method, code, goal -/
abbrev zC : Type := Program × Launch × Env × Room × State × MethodId × Array Value × List Frame × Method × Code × (State → Prop)
def zX (C : zC) (cc : ByteArray) (nL : Nat) (own : String) (Ts : List Cond) (g : zG) (N : Nat) : Prop :=
  C.1.tables.exec = Jvm.exec ∧ C.2.2.2.2.2.2.2.2.2.1.code = cc ∧ C.2.2.2.2.2.2.2.2.2.1.maxLocals = nL ∧ C.2.2.2.2.1.vm.findClass own = some C.2.2.2.2.2.1.cls ∧ (∀ w ∈ Ts, w.before C.2.2.2.2.2.2.1 C.2.2.2.2.1 = true) ∧ z_K g C.2.2.2.2.1 ∧ z_gd g N
abbrev zWc (C : zC) (H : Heap) (locs : List Loc) (cells slots : Nat) (f : JFrame) : Prop := W C.1 C.2.1 C.2.2.1 C.2.2.2.1 C.2.2.2.2.1 C.2.2.2.2.2.1 C.2.2.2.2.2.2.1 C.2.2.2.2.2.2.2.1 C.2.2.2.2.2.2.2.2.1 C.2.2.2.2.2.2.2.2.2.1 H locs cells slots C.2.2.2.2.2.2.2.2.2.2 f
/-- the walk: at pc, with the locals lv and the stack st, over any heap that holds the memory -/
def zJ (C : zC) (g : zG) (N nL cells slots : Nat) (I : Nat → Nat → Int32) (P : Nat → Nat → Option Nat) (J : Nat → Nat → Int64) (pc : Nat) (lv : List (Nat × Value)) (st : List Value) : Prop :=
  ∀ (H : Heap) (locs : List Loc) (ls : Array Slot), va_P g.2.1 zCls (z_wl g N I P J) H → va_S (z_A g) C.2.2.2.2.1.heap H locs → lv_has ls nL lv → zWc C H locs cells slots (F0 C.2.2.2.2.2.1 pc ls st)
theorem z_widen {C : zC} {g : zG} {N nL cells slots k n : Nat} {I : Nat → Nat → Int32} {P : Nat → Nat → Option Nat} {J : Nat → Nat → Int64} {pc : Nat} {lv : List (Nat × Value)} {st : List Value} (h1 : cells ≤ k) (h2 : slots ≤ n) (h : zJ C g N nL k n I P J pc lv st) : zJ C g N nL cells slots I P J pc lv st := fun H locs ls hP hS hl => W.widen h1 h2 (h H locs ls hP hS hl)
