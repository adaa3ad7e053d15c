section ZLK1
/-! THE LAW'S OWN METHODS AND ITS CALLS -/
theorem zrem_int {x y : Int32} (hx : 0 ≤ x.toInt) (hy : 0 < y.toInt) : (x - x / y * y).toInt = x.toInt % y.toInt := by
  have b1 := Int32.toInt_lt x
  have b2 := Int.ediv_le_self y.toInt hx
  have b3 := Int.ediv_nonneg hx (Int.le_of_lt hy)
  have e1 : (x / y).toInt = x.toInt / y.toInt := by
    rw [Int32.toInt_div, Int.tdiv_eq_ediv_of_nonneg hx]
    apply Int.bmod_eq_of_le <;> omega
  have b4 : x.toInt / y.toInt * y.toInt ≤ x.toInt := Int.ediv_mul_le _ (by omega)
  have b5 : 0 ≤ x.toInt / y.toInt * y.toInt := Int.mul_nonneg b3 (Int.le_of_lt hy)
  have e2 : (x / y * y).toInt = x.toInt / y.toInt * y.toInt := by
    rw [Int32.toInt_mul, e1]
    apply Int.bmod_eq_of_le <;> omega
  have e3 : x.toInt % y.toInt = x.toInt - x.toInt / y.toInt * y.toInt := by
    rw [Int.emod_def, Int.mul_comm]
  rw [e3, Int32.toInt_sub, e2]
  apply Int.bmod_eq_of_le <;> omega
theorem zrem_rng {x y : Int32} (hx : 0 ≤ x.toInt) (hy : 0 < y.toInt) : 0 ≤ (x - x / y * y).toInt ∧ (x - x / y * y).toInt < y.toInt := by
  rw [zrem_int hx hy]
  exact ⟨Int.emod_nonneg _ (by omega), Int.emod_lt_of_pos _ hy⟩
theorem zand_nn (a : Int32) : 0 ≤ (a &&& 4194303).toInt := by
  have e : (a &&& 4194303).toBitVec = a.toBitVec &&& 4194303#32 := rfl
  have m : (a &&& 4194303).toBitVec.msb = false := by
    rw [e, BitVec.msb_and, show (4194303#32).msb = false from by decide, Bool.and_false]
  have t : (a &&& 4194303).toInt = ((a &&& 4194303).toBitVec.toNat : Int) := BitVec.toInt_eq_toNat_of_msb m
  omega
/-- the script: nobody writes it -/
def z_SX (b L : Nat) (xs : Nat → Int32) (U : State) : Prop := va_X b L xs U U.heap ∧ b < U.heap.size
/-- the end of a method that makes and writes nothing, and answers an int -/
def z_Qs (post : Int32 → Prop) : Array Value → State → Outcome → State → Prop := fun _ st oc t => (∃ v, oc = .returned (some (.int v)) ∧ post v) ∧ t.heap = st.heap
def zNo : Addr → Prop := fun _ => False
abbrev zR0 : Room := { frames := 0, cells := 0, slots := 0, locals := 0 }
set_option maxHeartbeats 4000000 in
set_option maxRecDepth 100000 in
theorem kL_cell (lx : Launch) {b L : Nat} {xs : Nat → Int32} (hL : L ≤ 260) (k n : Int32) (hk : 0 ≤ k.toInt ∧ k.toInt ≤ 100) (hn : 0 < n.toInt) : Met lx yL_cell (zT yL_cell cL_cell 3 (Option.some FieldType.int)) zR0 (va_Pc [.ref b, .int k, .int n] (z_SX b L xs)) (z_Qs (fun v => 0 ≤ v.toInt ∧ v.toInt < n.toInt)) 0 0 zNo := by
  refine Met.ofW (cc := cL_cell) (maxL := 3) (ret := Option.some FieldType.int) (by decide) rfl ?_
  intro p e s m args below meth c s₁ B hml hv
  obtain ⟨rfl, hX, hbl⟩ := hv
  have hts := atoms_spec (ws := zT yL_cell cL_cell 3 (Option.some FieldType.int)) B.pre
  have hown : s.vm.findClass yL_cell.cls = some m.cls := findClass_of_methodNamed B.named
  have hx := B.exec
  have hb := B.bytes
  have hS : va_S zNo s.heap s.heap [] := va_S.rf
  have z0 : (0 : Int32).toInt = 0 := rfl
  have z7 : (7 : Int32).toInt = 7 := rfl
  have hn0 : ¬ n = 0 := fun z => by
    rw [z, z0] at hn
    exact absurd hn (by decide)
  rw [lg_entry_eq]
  suffices body : ∀ ls : Array Slot, lv_has ls 3 [(0, .ref b), (1, .int k), (2, .int n)] → W p lx e (headSpec (zT yL_cell cL_cell 3 (Option.some FieldType.int)) zR0).room s m (([.ref b, .int k, .int n] : List Value).toArray) below meth c s.heap [] 0 0 (MQ below (z_Qs (fun v => 0 ≤ v.toInt ∧ v.toInt < n.toInt)) (([.ref b, .int k, .int n] : List Value).toArray) s 0 0 zNo) (F0 m 0 ls []) from body _ (lv_entry [.ref b, .int k, .int n] (Nat.le_of_ble_eq_true rfl))
  intro ls hl
  have fin : ∀ x : Int32, 0 ≤ x.toInt → W p lx e (headSpec (zT yL_cell cL_cell 3 (Option.some FieldType.int)) zR0).room s m (([.ref b, .int k, .int n] : List Value).toArray) below meth c s.heap [] 0 0 (MQ below (z_Qs (fun v => 0 ≤ v.toInt ∧ v.toInt < n.toInt)) (([.ref b, .int k, .int n] : List Value).toArray) s 0 0 zNo) (F0 m 28 ls [.int x]) := fun x hx0 => by
    refine lv_iload_n hx hb dL_cell_28 rfl (lv_at hl 2 rfl) ?_
    refine lv_irem hx hb dL_cell_29 hn0 ?_
    exact W.iret hx hb B.returns (fun t ht hW => ⟨⟨_, rfl, zrem_rng hx0 hn⟩, ht⟩) (fun q hq => absurd hq List.not_mem_nil) dL_cell_30 B.notSynchronized
  refine lv_aload_n hx hb dL_cell_0 rfl (lv_at hl 0 rfl) ?_
  refine va_slen (A := zNo) hx hb hX hbl (fun h => h) hS dL_cell_1 ?_
  refine lv_if_ne hx hb dL_cell_2 (tgt := 14) (by decide) (fun h2 => ?_) (fun h2 => ?_)
  · have hL0 : L ≠ 0 := fun z => h2 (by rw [z]; rfl)
    have eL : (nI L).toInt = (L : Int) := nI_toInt (by omega)
    refine lv_aload_n hx hb dL_cell_14 rfl (lv_at hl 0 rfl) ?_
    refine lv_iload_n hx hb dL_cell_15 rfl (lv_at hl 1 rfl) ?_
    refine lv_aload_n hx hb dL_cell_16 rfl (lv_at hl 0 rfl) ?_
    refine va_slen (A := zNo) hx hb hX hbl (fun h => h) hS dL_cell_17 ?_
    refine lv_irem hx hb dL_cell_18 h2 ?_
    have r := zrem_rng (x := k) (y := nI L) hk.1 (by omega)
    refine va_sld (A := zNo) hx hb hX hbl (fun h => h) hS (i := k - k / Int32.ofNat L * Int32.ofNat L) (vp_in_iff.mpr ⟨r.1, by have r2 := r.2; rw [eL] at r2; exact r2⟩) dL_cell_19 ?_
    refine lv_iload_n hx hb dL_cell_20 rfl (lv_at hl 1 rfl) ?_
    refine lv_bipush hx hb dL_cell_21 (v := 7) rfl ?_
    refine lv_irem hx hb dL_cell_23 (by decide) ?_
    refine lv_ishr hx hb dL_cell_24 ?_
    refine lv_ldc (own := RL) hx hb hown (hts _ (List.mem_cons_of_mem _ zm_3_140)) dL_cell_25 ?_
    refine lv_iand hx hb dL_cell_27 ?_
    exact fin _ (zand_nn _)
  · refine lv_iload_n hx hb dL_cell_5 rfl (lv_at hl 1 rfl) ?_
    refine lv_bipush hx hb dL_cell_6 (v := 37) rfl ?_
    refine lv_imul hx hb dL_cell_8 ?_
    refine lv_iconst hx hb dL_cell_9 (v := 5) rfl ?_
    refine lv_iadd hx hb dL_cell_10 ?_
    refine lv_goto hx hb dL_cell_11 (tgt := 28) (by decide) ?_
    refine fin _ ?_
    have e37 : (37 : Int32).toInt = 37 := rfl
    have e5 : (5 : Int32).toInt = 5 := rfl
    have m1 : (k * 37).toInt = k.toInt * 37 := by
      rw [Int32.toInt_mul, e37]
      apply Int.bmod_eq_of_le <;> omega
    have m2 : (k * 37 + 5).toInt = k.toInt * 37 + 5 := by
      rw [Int32.toInt_add, m1, e5]
      apply Int.bmod_eq_of_le <;> omega
    omega
theorem zkL_cell : z_pkS yL_cell cL_cell 3 (Option.some FieldType.int) 3 := ⟨zm_3_138, zm_1_0, zm_3_139, by decide, by decide, by decide +kernel⟩
theorem zkL_limit : z_pkS yL_limit cL_limit 4 (Option.some FieldType.int) 3 := ⟨zm_3_142, zm_1_0, zm_3_143, by decide, by decide, by decide +kernel⟩
/-- behind a call that leaves the heap as it is -/
theorem z_callQ {p : Program} {l : Launch} {e : Env} {R : Room} {s : State} {m : MethodId} {args : Array Value} {below : List Frame} {meth : Method} {c : Code} {H : Heap} {locs : List Loc} {cells slots : Nat} {Q : State → Prop} {g : zG} {post : Int32 → Prop} {pc : Nat} {ls : Array Slot} {st0 rest : List Value} {a : Array Value} (hr : va_Run p l e R s m args below meth c H locs cells slots 0 0 (F0 m pc ls st0) rest (z_Qs post a) zNo) (hS : va_S (z_A g) s.heap H locs)
    (kk : ∀ v locs1, post v → va_S (z_A g) s.heap H locs1 → W p l e R s m args below meth c H locs1 cells slots Q (F0 m (pc + 3) ls (.int v :: rest))) : W p l e R s m args below meth c H locs cells slots Q (F0 m pc ls st0) := by
  intro T hT X
  obtain ⟨v, st₀, t, T', L, h0, X', hL, e1, e2, ⟨⟨v', hv, hp⟩, hh⟩, stp⟩ := hr T hT X
  cases hv
  have hH : T'.heap = H := by rw [e1, hh, h0]
  obtain ⟨t2, a1, b1⟩ := kk v' (locs ++ L) hp ⟨hS.1, hS.2.1, fun q hq => by
    rcases List.mem_append.mp hq with h | h
    · exact hS.2.2 q h
    · exact (hL q h).elim⟩ T' hH X'
  exact ⟨t2, stp t2 a1, b1⟩
variable {C : zC} {g : zG} {sa : Nat → Nat} {N nL : Nat} {I : Nat → Nat → Int32} {P : Nat → Nat → Option Nat} {J : Nat → Nat → Int64} {pc : Nat} {lv : List (Nat × Value)} {st : List Value} {cells slots b L : Nat} {xs : Nat → Int32} {w0 : Cond}
theorem z_SX.to {b L : Nat} {xs : Nat → Int32} {A : Nat → Prop} {s U : State} {H : Heap} {locs : List Loc} (hx : va_X b L xs s s.heap) (hb : b < s.heap.size) (hA : ¬ A b) (hW : s.WarmedH U.vm) (hU : U.heap = H) (hS : va_S A s.heap H locs) : z_SX b L xs U := by
  refine ⟨?_, ?_⟩
  · rw [hU]
    exact (hx.moved hW.alike).kept (hS.2.1 b hb hA)
  · rw [hU]
    exact Nat.lt_of_lt_of_le hb hS.1
theorem z_cell {cc : ByteArray} (hC : zX C cc nL RL (w0 :: zU) g N) (hx : va_X b L xs C.2.2.2.2.1 C.2.2.2.2.1.heap) (hb : b < C.2.2.2.2.1.heap.size) (hA : ¬ z_A g b) (hL : L ≤ 260) (hRm : C.2.2.2.1 = room_1) {k n : Int32} (hk : 0 ≤ k.toInt ∧ k.toInt ≤ 100) (hn : 0 < n.toInt) (hc : cells ≤ 600130 ∧ slots ≤ 7301080) (hW : (st.map fun v => v.category).sum ≤ 8) (hdg : decode cc pc = .ok (.invokestatic 11, 3)) (kk : ∀ v : Int32, 0 ≤ v.toInt → v.toInt < n.toInt → zJ C g N nL cells slots I P J (pc + 3) lv (.int v :: st)) : zJ C g N nL cells slots I P J pc lv (.int n :: .int k :: .ref b :: st) := by
  intro H locs ls hP hS hl2
  refine z_callQ (post := fun v => 0 ≤ v.toInt ∧ v.toInt < n.toInt) (va_runS (As := [.ref b, .int k, .int n]) (rest := st) ⟨hC.1, hC.2.1, hC.2.2.1, hC.2.2.2.1, hC.2.2.2.2.1⟩ (kL_cell C.2.1 (b := b) (xs := xs) hL k n hk hn) (va_cwS 3 hC.2.2.2.2.1 (z_goodS (fun w h => List.mem_cons_of_mem _ h) zm_3_137 zkL_cell) rfl rfl rfl zkL_cell.2.2.2 (by rw [hRm]; exact ⟨Nat.le_of_ble_eq_true rfl, Nat.le_of_ble_eq_true rfl⟩)) ⟨fun a U f mk q => ⟨q.1, q.2.1.moved (U := U.calling f mk a) (Vm.Alike.refl U.vm), q.2.2⟩, fun U hU hWm => ⟨rfl, z_SX.to hx hb hA hWm hU hS⟩⟩ rfl rfl hl2.1 rfl (by show 2 * 0 + _ ≤ 8; omega) hdg (by rw [hRm]; exact hc)) hS ?_
  intro v locs1 hp hS1
  exact kk v hp.1 hp.2 H locs1 ls hP hS1 hl2
theorem y_cell {cc : ByteArray} {X : va_W} (hC : zX0 C cc nL RL (w0 :: zU) g) (hx : va_X b L xs C.2.2.2.2.1 C.2.2.2.2.1.heap) (hb : b < C.2.2.2.2.1.heap.size) (hA : ¬ z_A g b) (hL : L ≤ 260) (hRm : C.2.2.2.1 = room_1) {k n : Int32} (hk : 0 ≤ k.toInt ∧ k.toInt ≤ 100) (hn : 0 < n.toInt) (hc : cells ≤ 600130 ∧ slots ≤ 7301080) (hW : (st.map fun v => v.category).sum ≤ 8) (hdg : decode cc pc = .ok (.invokestatic 11, 3)) (kk : ∀ v : Int32, 0 ≤ v.toInt → v.toInt < n.toInt → zI C g nL cells slots X (pc + 3) lv (.int v :: st)) : zI C g nL cells slots X pc lv (.int n :: .int k :: .ref b :: st) := by
  intro H locs ls hP hD hS hl2
  refine z_callQ (post := fun v => 0 ≤ v.toInt ∧ v.toInt < n.toInt) (va_runS (As := [.ref b, .int k, .int n]) (rest := st) ⟨hC.1, hC.2.1, hC.2.2.1, hC.2.2.2.1, hC.2.2.2.2.1⟩ (kL_cell C.2.1 (b := b) (xs := xs) hL k n hk hn) (va_cwS 3 hC.2.2.2.2.1 (z_goodS (fun w h => List.mem_cons_of_mem _ h) zm_3_137 zkL_cell) rfl rfl rfl zkL_cell.2.2.2 (by rw [hRm]; exact ⟨Nat.le_of_ble_eq_true rfl, Nat.le_of_ble_eq_true rfl⟩)) ⟨fun a U f mk q => ⟨q.1, q.2.1.moved (U := U.calling f mk a) (Vm.Alike.refl U.vm), q.2.2⟩, fun U hU hWm => ⟨rfl, z_SX.to hx hb hA hWm hU hS⟩⟩ rfl rfl hl2.1 rfl (by show 2 * 0 + _ ≤ 8; omega) hdg (by rw [hRm]; exact hc)) hS ?_
  intro v locs1 hp hS1
  exact kk v hp.1 hp.2 H locs1 ls hP hD hS1 hl2
theorem z_irem {cc : ByteArray} {own : String} {Ts : List Cond} (hC : zX C cc nL own Ts g N) {x y : Int32} (hdg : decode cc pc = .ok (.irem, 1)) (hne : ¬ y = 0) (k : zJ C g N nL cells slots I P J (pc + 1) lv (.int (x - x / y * y) :: st)) : zJ C g N nL cells slots I P J pc lv (.int y :: .int x :: st) := fun H locs ls hP hS hl => lv_irem hC.1 hC.2.1 hdg hne (k H locs ls hP hS hl)
/-- a call that can't throw here -/
theorem z_callVN {cc : ByteArray} {own : String} {post : Option Value → (Nat → Nat → Int32) → (Nat → Nat → Option Nat) → (Nat → Nat → Int64) → Prop} {xp : String → (Nat → Nat → Int32) → (Nat → Nat → Option Nat) → (Nat → Nat → Int64) → Prop} {mc ms : Nat} (hC : zX C cc nL own (w0 :: zU) g N) (hX : z_KX g sa C.2.2.2.2.1) {y : MethodName} {bytes : ByteArray} {maxL n index : Nat} {ret : Option FieldType} {Cn : String} {Tn : u_T} {NN ci id : Nat} {rm R0 : Room} {stk : List Value} (As : List Value)
    (hM : z_CtX C.2.1 y (zT y bytes maxL ret) rm g sa N I P J (.ref (g.1 id) :: As) post xp mc ms) (hsh : z_sh id = (false, ci, 0)) (hid : id < N) (hc : zCls[ci]? = some (Cn, Tn, NN)) (hp : z_pkV y bytes maxL ret Cn n) (hl : Cond.methodLink own index y ∈ zU)
    (hrm : rm.cells = mc ∧ rm.slots = ms) (hn : As.length = n) (hst : stk = As.reverse ++ .ref (g.1 id) :: st) (hRm : C.2.2.2.1 = R0) (hR : rm.frames + 1 ≤ R0.frames ∧ 8 + (maxL + 11) + rm.locals ≤ R0.locals) (hW : (st.map fun v => v.category).sum ≤ 8) (hf : cells + mc ≤ R0.cells ∧ slots + ms ≤ R0.slots) (hdg : decode cc pc = .ok (.invokevirtual index, 3))
    (hxx : ∀ E I' P' J', ¬ xp E I' P' J')
    (kk : ∀ v I' P' J', post v I' P' J' → zJ C g N nL (cells + mc) (slots + ms) I' P' J' (pc + 3) lv (v.toList ++ st)) : zJ C g N nL cells slots I P J pc lv stk := by
  intro H locs ls hP hS hl2
  have hK := hC.2.2.2.2.2.1
  subst hst
  intro T hT X
  rcases (vx_runV (b := g.1 id) (As := As) (rest := st) ⟨hC.1, hC.2.1, hC.2.2.1, hC.2.2.2.1, hC.2.2.2.2.1⟩ hM (cwV n hC.2.2.2.2.1 (z_goodV (fun w h => List.mem_cons_of_mem _ h) hl hp) rfl hrm.1 hrm.2 hp.2.2.2.2 (by rw [hRm]; exact hR)) ⟨fun a U f mk q => ⟨q.1, q.2.1.calling f mk a, q.2.2.calling f mk a⟩, va_recv hK.1 hP hc (q0 := id) (by rw [z_wl_get hid, z_cn_ob hsh]), fun U hU hWm => ⟨rfl, ⟨by rw [hU]; exact hP, hK.at hWm hU hS, hC.2.2.2.2.2.2⟩, hX.at hWm hU hS⟩⟩ (g := F0 C.2.2.2.2.2.1 pc ls (As.reverse ++ .ref (g.1 id) :: st)) rfl hn hl2.1 rfl (by show 2 * 0 + _ ≤ 8; omega) hdg (by rw [hRm]; exact hf)) T hT X with ⟨v, st₀, t, T', L, h0, X', hL, e1, e2, ⟨⟨v', I', P', J', hv, hpo, hb⟩, hF⟩, stp⟩ | ⟨q, st₀, t, T', L, E, ce, h0, X', hL, e1, e2, ⟨⟨I', P', J', hpo, hb⟩, hF⟩, hce, hcv, hcl, stp⟩
  · cases hv
    obtain ⟨k1, k2, k3⟩ := vx_keep h0 e1 hS (fun q _ h => h) (fun q h => h) hL hF
    obtain ⟨t2, a1, b1⟩ := kk v I' P' J' hpo T'.heap (locs ++ L) ls (by rw [e1]; exact hb) k3 hl2 T' rfl X'
    exact ⟨t2, stp t2 a1, b1⟩
  · exact absurd hpo (hxx E I' P' J')
end ZLK1
