section ZHL
/-! THE LAW'S HELPERS: they catch what the class throws -/
def z_NC (U : State) : Prop := ∀ i j : Nat, i < 3 → j < 3 → i ≠ j → va_Nc (zEn i) (zEn j) U
theorem z_NC.moved {u U : State} (hvm : u.vm.Alike U.vm) (h : z_NC u) : z_NC U := fun i j hi hj hij => (h i j hi hj hij).moved hvm
/-- the words of a helper: its code with its table -/
def zTh (y : MethodName) (cc : ByteArray) (maxL : Nat) (ret : Option FieldType) (hh : List (Nat × Nat × Nat × Nat)) : List Cond := Cond.codeWith y cc maxL ret hh :: zU
def z_CtL (l : Launch) (y : MethodName) (ws : List Cond) (rm : Room) (g : zG) (sa : Nat → Nat) (N : Nat) (I : Nat → Nat → Int32) (P : Nat → Nat → Option Nat) (J : Nat → Nat → Int64) (av : List Value) (post : Option Value → (Nat → Nat → Int32) → (Nat → Nat → Option Nat) → (Nat → Nat → Int64) → Prop) (mc ms : Nat) : Prop :=
  Met l y ws rm (va_Pc av (fun U => z_W g N I P J U ∧ z_KX g sa U ∧ z_NC U)) (z_Q g N post) mc ms (z_A g)
def z_CtLG (l : Launch) (y : MethodName) (ws : List Cond) (rm : Room) (g : zG) (sa : Nat → Nat) (N : Nat) (I : Nat → Nat → Int32) (P : Nat → Nat → Option Nat) (J : Nat → Nat → Int64) (av : List Value) (post : (Nat → Nat) → Nat → Option Value → (Nat → Nat → Int32) → (Nat → Nat → Option Nat) → (Nat → Nat → Int64) → Prop) (mc ms : Nat) : Prop :=
  Met l y ws rm (va_Pc av (fun U => z_W g N I P J U ∧ z_KX g sa U ∧ z_AOs g U ∧ z_NC U)) (z_QG g post) mc ms (z_A g)
def zEL (C : zC) (g : zG) (mc ms : Nat) (ret : Option FieldType) (post : (Nat → Nat) → Nat → Option Value → (Nat → Nat → Int32) → (Nat → Nat → Option Nat) → (Nat → Nat → Int64) → Prop) : Prop := C.2.2.2.2.2.2.2.2.1.sig.returnType = ret ∧ C.2.2.2.2.2.2.2.2.1.locks = false ∧ C.2.2.2.2.2.2.2.2.2.2 = MQ C.2.2.2.2.2.2.2.1 (z_QG g post) C.2.2.2.2.2.2.1 C.2.2.2.2.1 mc ms (z_A g)
section
variable {C : zC} {g : zG} {sa : Nat → Nat} {N nL : Nat} {I : Nat → Nat → Int32} {P : Nat → Nat → Option Nat} {J : Nat → Nat → Int64} {pc : Nat} {lv : List (Nat × Value)} {st : List Value} {cc : ByteArray} {own : String} {w0 : Cond} {cells slots mc ms : Nat} {Ts : List Cond}
theorem z_bodyW {l : Launch} {y : MethodName} {ws ws' : List Cond} {rm : Room} {Pc : Array Value → State → Prop} {Qc : Array Value → State → Outcome → State → Prop} {free : Addr → Prop} {maxL : Nat} {ret : Option FieldType} {hh : List (Nat × Nat × Nat × Nat)} (hy : plainName y.cls = true) (hw : ws = Cond.codeWith y cc maxL ret hh :: ws')
    (body : ∀ p e s m args below meth c s₁, BodyLoose p l y (headSpec ws rm) cc maxL ret e s m args below meth c s₁ → c.maxLocals = maxL → Pc args s → W p l e (headSpec ws rm).room s m args below meth c s.heap [] 0 0 (MQ below Qc args s mc ms free) (entryFrame m args maxL)) : Met l y ws rm Pc Qc mc ms free := by
  refine MetFree.of_bodyS (code := cc) (maxLocals := maxL) (ret := ret) hy ?_ ?_
  · intro args s m h hn
    obtain ⟨m9, meth, c, hn9, h1, h2, h3, h4, -, h5, h6, -⟩ := Cond.codeWith_spec (atoms_spec (ws := ws) h _ (by rw [hw]; exact List.mem_cons_self))
    cases hn.symm.trans hn9
    exact ⟨meth, c, h1, h2, h3, h4, h5, h6⟩
  · intro p e s m args below meth c s₁ B hml hP _
    have hh0 : s₁.heap = s.heap := by rw [B.state]; rfl
    obtain ⟨t, a1, o, b1, b2, b3⟩ := body p e s m args below meth c s₁ B hml hP s₁ hh0 (Stand.of_body B)
    exact ⟨t, o, a1, b1, b2, ⟨b3.1, b3.2⟩⟩
theorem z_ofL {l : Launch} {y : MethodName} {rm : Room} {av : List Value} {maxL : Nat} {ret : Option FieldType} {hh : List (Nat × Nat × Nat × Nat)} {post : Option Value → (Nat → Nat → Int32) → (Nat → Nat → Option Nat) → (Nat → Nat → Int64) → Prop} (hy : plainName y.cls = true) (hn : (lg_sl av).length ≤ maxL) {lv0 : List (Nat × Value)} (hl0 : lv_args 0 av = lv0)
    (body : ∀ C : zC, C.2.1 = l → zX C cc maxL y.cls (zTh y cc maxL ret hh) g N → zE C g N mc ms ret post → C.2.2.2.1 = rm → z_KX g sa C.2.2.2.2.1 → z_NC C.2.2.2.2.1 → C.2.2.2.2.2.2.2.2.2.1.exceptionTable.toList = tableOf hh → zJ C g N maxL 0 0 I P J 0 lv0 []) : z_CtL l y (zTh y cc maxL ret hh) rm g sa N I P J av post mc ms := by
  subst hl0
  refine z_bodyW (cc := cc) (maxL := maxL) (ret := ret) (hh := hh) hy rfl ?_
  intro p e s m args below meth c s₁ B hml hv
  obtain ⟨rfl, ⟨hP, hK, hG⟩, hX, hN⟩ := hv
  have hts := atoms_spec (ws := zTh y cc maxL ret hh) B.pre
  have htb : c.exceptionTable.toList = tableOf hh := vx_table (x := y) B (hts _ List.mem_cons_self)
  have hown : s.vm.findClass y.cls = some m.cls := findClass_of_methodNamed B.named
  have h := body (p, l, e, (headSpec (zTh y cc maxL ret hh) rm).room, s, m, av.toArray, below, meth, c, MQ below (z_Q g N post) av.toArray s mc ms (z_A g)) rfl ⟨B.exec, B.bytes, hml, hown, hts, hK, hG⟩ ⟨B.returns, B.notSynchronized, rfl⟩ rfl hX hN htb
  rw [lg_entry_eq]
  exact h s.heap [] _ hP va_S.rf (lv_entry av hn)
theorem z_ofLG {l : Launch} {y : MethodName} {rm : Room} {av : List Value} {maxL : Nat} {ret : Option FieldType} {hh : List (Nat × Nat × Nat × Nat)} {post : (Nat → Nat) → Nat → Option Value → (Nat → Nat → Int32) → (Nat → Nat → Option Nat) → (Nat → Nat → Int64) → Prop} (hy : plainName y.cls = true) (hn : (lg_sl av).length ≤ maxL) {lv0 : List (Nat × Value)} (hl0 : lv_args 0 av = lv0)
    (body : ∀ C : zC, C.2.1 = l → zX C cc maxL y.cls (zTh y cc maxL ret hh) g N → zEL C g mc ms ret post → C.2.2.2.1 = rm → z_KX g sa C.2.2.2.2.1 → z_AOs g C.2.2.2.2.1 → z_NC C.2.2.2.2.1 → C.2.2.2.2.2.2.2.2.2.1.exceptionTable.toList = tableOf hh → zJ C g N maxL 0 0 I P J 0 lv0 []) : z_CtLG l y (zTh y cc maxL ret hh) rm g sa N I P J av post mc ms := by
  subst hl0
  refine z_bodyW (cc := cc) (maxL := maxL) (ret := ret) (hh := hh) hy rfl ?_
  intro p e s m args below meth c s₁ B hml hv
  obtain ⟨rfl, ⟨hP, hK, hG⟩, hX, hAO, hN⟩ := hv
  have hts := atoms_spec (ws := zTh y cc maxL ret hh) B.pre
  have htb : c.exceptionTable.toList = tableOf hh := vx_table (x := y) B (hts _ List.mem_cons_self)
  have hown : s.vm.findClass y.cls = some m.cls := findClass_of_methodNamed B.named
  have h := body (p, l, e, (headSpec (zTh y cc maxL ret hh) rm).room, s, m, av.toArray, below, meth, c, MQ below (z_QG g post) av.toArray s mc ms (z_A g)) rfl ⟨B.exec, B.bytes, hml, hown, hts, hK, hG⟩ ⟨B.returns, B.notSynchronized, rfl⟩ rfl hX hAO hN htb
  rw [lg_entry_eq]
  exact h s.heap [] _ hP va_S.rf (lv_entry av hn)
theorem z_iretL {f : Nat → Nat} {N' : Nat} {post : (Nat → Nat) → Nat → Option Value → (Nat → Nat → Int32) → (Nat → Nat → Option Nat) → (Nat → Nat → Int64) → Prop} (hC : zX C cc nL own Ts (f, g.2) N') {v : Int32} (hE : zEL C g mc ms (some .int) post) (hdg : decode cc pc = .ok (.ireturn, 1)) (hp : post f N' (some (.int v)) I P J) : zJ C (f, g.2) N' nL mc ms I P J pc lv [.int v] := fun H locs ls hP hS hl => by
  unfold zWc
  rw [hE.2.2]
  exact W.iret hC.1 hC.2.1 hE.1 (fun t ht hW => ⟨⟨_, f, N', I, P, J, rfl, hp, hC.2.2.2.2.2.2, by rw [ht]; exact hP⟩, hS.F ht⟩) hS.2.2 hdg hE.2.1
/-- where a handler takes what was thrown -/
def zHd (C : zC) (g : zG) (N nL cells slots : Nat) (own : String) (pc : Nat) (lv : List (Nat × Value)) (E : String) (I : Nat → Nat → Int32) (P : Nat → Nat → Option Nat) (J : Nat → Nat → Int64) : Prop := ∃ (k : Nat) (pre : List ExceptionTableEntry) (x : ExceptionTableEntry) (suf : List ExceptionTableEntry), k < 3 ∧ E = zEn k ∧ C.2.2.2.2.2.2.2.2.2.1.exceptionTable.toList = pre ++ x :: suf ∧ (∀ z ∈ pre, z.catchType ≠ 0 ∧ ∃ j, j < 3 ∧ k ≠ j ∧ Cond.classLink own z.catchType (zEn j) ∈ zU) ∧ covers x pc = true ∧ x.catchType ≠ 0 ∧ Cond.classLink own x.catchType (zEn k) ∈ zU ∧ ∀ q : Nat, zJ C g N nL cells slots I P J x.handlerPc lv [.ref q]
theorem zHd.go (hC : zX C cc nL own (w0 :: zU) g N) (hX : z_KX g sa C.2.2.2.2.1) (hN : z_NC C.2.2.2.2.1) {E : String} {ce : Cell} {q : Addr} {H : Heap} {locs : List Loc} {ls : Array Slot} (h : zHd C g N nL cells slots own pc lv E I P J) (hcell : H[q]? = some ce) (hv : ce.vm = .none) (hcl : C.2.2.2.2.1.vm.findClass E = some ce.cls) (hP : va_P g.2.1 vwCl (z_wl g N I P J) H) (hS : va_S (z_A g) C.2.2.2.2.1.heap H locs) (hl : lv_has ls nL lv) : vx_W C.1 C.2.1 C.2.2.1 C.2.2.2.1 C.2.2.2.2.1 C.2.2.2.2.2.1 C.2.2.2.2.2.2.1 C.2.2.2.2.2.2.2.1 C.2.2.2.2.2.2.2.2.1 C.2.2.2.2.2.2.2.2.2.1 H locs cells slots C.2.2.2.2.2.2.2.2.2.2 (F0 C.2.2.2.2.2.1 pc ls st) q := by
  obtain ⟨k, pre, x, suf, hk, rfl, htb, hpass, hx, h0, hlk, kk⟩ := h
  refine vx_catch (own := own) (name := zEn k) (E := zEn k) hC.2.2.2.1 pre x suf htb (fun z hz => Or.inr ?_) hx h0 (hC.2.2.2.2.1 _ (z_tw hlk)) (va_Nw.use rfl (hX.2.2.1 k hk)) hcell hv hcl (kk q H locs ls hP hS hl)
  obtain ⟨h1, j, hj, hkj, hl2⟩ := hpass z hz
  exact ⟨h1, zEn j, hC.2.2.2.2.1 _ (z_tw hl2), hN k j hk hj hkj⟩
theorem z_callVC (hC : zX C cc nL own (w0 :: zU) g N) (hX : z_KX g sa C.2.2.2.2.1) (hNC : z_NC C.2.2.2.2.1) {post : Option Value → (Nat → Nat → Int32) → (Nat → Nat → Option Nat) → (Nat → Nat → Int64) → Prop} {xp : String → (Nat → Nat → Int32) → (Nat → Nat → Option Nat) → (Nat → Nat → Int64) → Prop} {y : MethodName} {bytes : ByteArray} {maxL n index : Nat} {ret : Option FieldType} {Cn : String} {Tn : u_T} {NN ci id : Nat} {rm R0 : Room} {stk : List Value} (As : List Value)
    (hM : z_CtX C.2.1 y (zT y bytes maxL ret) rm g sa N I P J (.ref (g.1 id) :: As) post xp mc ms) (hsh : z_sh id = (false, ci, 0)) (hid : id < N) (hc : vwCl[ci]? = some (Cn, Tn, NN)) (hp : z_pkV y bytes maxL ret Cn n) (hl : Cond.methodLink own index y ∈ zU)
    (hrm : rm.cells = mc ∧ rm.slots = ms) (hn : As.length = n) (hst : stk = As.reverse ++ .ref (g.1 id) :: st) (hRm : C.2.2.2.1 = R0) (hR : rm.frames + 1 ≤ R0.frames ∧ 8 + (maxL + 11) + rm.locals ≤ R0.locals) (hW : (st.map fun v => v.category).sum ≤ 8) (hf : cells + mc ≤ R0.cells ∧ slots + ms ≤ R0.slots) (hdg : decode cc pc = .ok (.invokevirtual index, 3))
    (hxx : ∀ E I' P' J', xp E I' P' J' → zHd C g N nL (cells + mc) (slots + ms) own pc lv E I' P' J')
    (kk : ∀ v I' P' J', post v I' P' J' → zJ C g N nL (cells + mc) (slots + ms) I' P' J' (pc + 3) lv (v.toList ++ st)) : zJ C g N nL cells slots I P J pc lv stk := by
  intro H locs ls hP hS hl2
  have hK := hC.2.2.2.2.2.1
  subst hst
  intro T hT X
  rcases (vx_runV (b := g.1 id) (As := As) (rest := st) ⟨hC.1, hC.2.1, hC.2.2.1, hC.2.2.2.1, hC.2.2.2.2.1⟩ hM (cwV n hC.2.2.2.2.1 (z_goodV (fun w h => List.mem_cons_of_mem _ h) hl hp) rfl hrm.1 hrm.2 hp.2.2.2.2 (by rw [hRm]; exact hR)) ⟨fun a U f mk q => ⟨q.1, q.2.1.calling f mk a, q.2.2.calling f mk a⟩, va_recv hK.1 hP hc (q0 := id) (by rw [z_wl_get hid, z_cn_ob hsh]), fun U hU hWm => ⟨rfl, ⟨by rw [hU]; exact hP, hK.at hWm hU hS, hC.2.2.2.2.2.2⟩, hX.at hWm hU hS⟩⟩ (g := F0 C.2.2.2.2.2.1 pc ls (As.reverse ++ .ref (g.1 id) :: st)) rfl hn hl2.1 rfl (by show 2 * 0 + _ ≤ 8; omega) hdg (by rw [hRm]; exact hf)) T hT X with ⟨v, st₀, t, T', L, h0, X', hL, e1, e2, ⟨⟨v', I', P', J', hv, hpo, hb⟩, hF⟩, stp⟩ | ⟨q, st₀, t, T', L, E, ce, h0, X', hL, e1, e2, ⟨⟨I', P', J', hpo, hb⟩, hF⟩, hce, hcv, hcl, stp⟩
  · cases hv
    obtain ⟨k1, k2, k3⟩ := vx_keep h0 e1 hS (fun q _ h => h) (fun q h => h) hL hF
    obtain ⟨t2, a1, b1⟩ := kk v I' P' J' hpo T'.heap (locs ++ L) ls (by rw [e1]; exact hb) k3 hl2 T' rfl X'
    exact ⟨t2, stp t2 a1, b1⟩
  · obtain ⟨k1, k2, k3⟩ := vx_keep h0 e1 hS (fun q _ h => h) (fun q h => h) hL hF
    obtain ⟨t2, a1, b1⟩ := zHd.go (st := st) (ls := ls) hC hX hNC (hxx E I' P' J' hpo) (by rw [e1]; exact hce) hcv hcl (by rw [e1]; exact hb) k3 hl2 T' rfl X'
    exact ⟨t2, stp.trans a1, b1⟩
theorem z_callVCG (hC : zX C cc nL own (w0 :: zU) g N) (hX : z_KX g sa C.2.2.2.2.1) (hAO : z_AOs g C.2.2.2.2.1) (hNC : z_NC C.2.2.2.2.1) {post : (Nat → Nat) → Nat → Option Value → (Nat → Nat → Int32) → (Nat → Nat → Option Nat) → (Nat → Nat → Int64) → Prop} {xp : String → (Nat → Nat → Int32) → (Nat → Nat → Option Nat) → (Nat → Nat → Int64) → Prop} {y : MethodName} {bytes : ByteArray} {maxL n index : Nat} {ret : Option FieldType} {Cn : String} {Tn : u_T} {NN ci id : Nat} {rm R0 : Room} {stk : List Value} (As : List Value)
    (hM : z_CtG C.2.1 y (zT y bytes maxL ret) rm g sa N I P J (.ref (g.1 id) :: As) post xp mc ms) (hsh : z_sh id = (false, ci, 0)) (hid : id < N) (hc : vwCl[ci]? = some (Cn, Tn, NN)) (hp : z_pkV y bytes maxL ret Cn n) (hl : Cond.methodLink own index y ∈ zU)
    (hrm : rm.cells = mc ∧ rm.slots = ms) (hn : As.length = n) (hst : stk = As.reverse ++ .ref (g.1 id) :: st) (hRm : C.2.2.2.1 = R0) (hR : rm.frames + 1 ≤ R0.frames ∧ 8 + (maxL + 11) + rm.locals ≤ R0.locals) (hW : (st.map fun v => v.category).sum ≤ 8) (hf : cells + mc ≤ R0.cells ∧ slots + ms ≤ R0.slots) (hdg : decode cc pc = .ok (.invokevirtual index, 3))
    (hxx : ∀ E I' P' J', xp E I' P' J' → zHd C g N nL (cells + mc) (slots + ms) own pc lv E I' P' J')
    (kk : ∀ f N' v I' P' J', z_gd (f, g.2) N' → post f N' v I' P' J' → zJ C (f, g.2) N' nL (cells + mc) (slots + ms) I' P' J' (pc + 3) lv (v.toList ++ st)) : zJ C g N nL cells slots I P J pc lv stk := by
  intro H locs ls hP hS hl2
  have hK := hC.2.2.2.2.2.1
  subst hst
  intro T hT X
  rcases (vx_runV (b := g.1 id) (As := As) (rest := st) ⟨hC.1, hC.2.1, hC.2.2.1, hC.2.2.2.1, hC.2.2.2.2.1⟩ hM (cwV n hC.2.2.2.2.1 (z_goodV (fun w h => List.mem_cons_of_mem _ h) hl hp) rfl hrm.1 hrm.2 hp.2.2.2.2 (by rw [hRm]; exact hR)) ⟨fun a U f mk q => ⟨q.1, q.2.1.calling f mk a, q.2.2.1.calling f mk a, q.2.2.2.moved (U := U.calling f mk a) (Vm.Alike.refl U.vm)⟩, va_recv hK.1 hP hc (q0 := id) (by rw [z_wl_get hid, z_cn_ob hsh]), fun U hU hWm => ⟨rfl, ⟨by rw [hU]; exact hP, hK.at hWm hU hS, hC.2.2.2.2.2.2⟩, hX.at hWm hU hS, hAO.moved hWm.alike⟩⟩ (g := F0 C.2.2.2.2.2.1 pc ls (As.reverse ++ .ref (g.1 id) :: st)) rfl hn hl2.1 rfl (by show 2 * 0 + _ ≤ 8; omega) hdg (by rw [hRm]; exact hf)) T hT X with ⟨v, st₀, t, T', L, h0, X', hL, e1, e2, ⟨⟨v', f, N', I', P', J', hv, hpo, hgd, hb⟩, hF⟩, stp⟩ | ⟨q, st₀, t, T', L, E, ce, h0, X', hL, e1, e2, ⟨⟨I', P', J', hpo, hb⟩, hF⟩, hce, hcv, hcl, stp⟩
  · cases hv
    obtain ⟨k1, k2, k3⟩ := vx_keep h0 e1 hS (fun q _ h => h) (fun q h => h) hL hF
    obtain ⟨t2, a1, b1⟩ := kk f N' v I' P' J' hgd hpo T'.heap (locs ++ L) ls (by rw [e1]; exact hb) k3 hl2 T' rfl X'
    exact ⟨t2, stp t2 a1, b1⟩
  · obtain ⟨k1, k2, k3⟩ := vx_keep h0 e1 hS (fun q _ h => h) (fun q h => h) hL hF
    obtain ⟨t2, a1, b1⟩ := zHd.go (st := st) (ls := ls) hC hX hNC (hxx E I' P' J' hpo) (by rw [e1]; exact hce) hcv hcl (by rw [e1]; exact hb) k3 hl2 T' rfl X'
    exact ⟨t2, stp.trans a1, b1⟩
end
/-- what a helper answers: 0 and the result in out[0], or the place of the handler -/
def zLV (ks : List Nat) (post : Option Value → (Nat → Nat → Int32) → (Nat → Nat → Option Nat) → (Nat → Nat → Int64) → Prop) (xp : String → (Nat → Nat → Int32) → (Nat → Nat → Option Nat) → (Nat → Nat → Int64) → Prop) : Option Value → (Nat → Nat → Int32) → (Nat → Nat → Option Nat) → (Nat → Nat → Int64) → Prop := fun v I' P' J' => (v = some (.int 0) ∧ ∃ (r : Int32) (J1 : Nat → Nat → Int64), J' = z_u J1 110 0 r.toInt64 ∧ post (some (.int r)) I' P' J1) ∨ ∃ i k, ks[i]? = some k ∧ v = some (.int (nI (i + 1))) ∧ xp (zEn k) I' P' J'
def zLN (ks : List Nat) (post : Option Value → (Nat → Nat → Int32) → (Nat → Nat → Option Nat) → (Nat → Nat → Int64) → Prop) (xp : String → (Nat → Nat → Int32) → (Nat → Nat → Option Nat) → (Nat → Nat → Int64) → Prop) : Option Value → (Nat → Nat → Int32) → (Nat → Nat → Option Nat) → (Nat → Nat → Int64) → Prop := fun v I' P' J' => (v = some (.int 0) ∧ post none I' P' J') ∨ ∃ i k, ks[i]? = some k ∧ v = some (.int (nI (i + 1))) ∧ xp (zEn k) I' P' J'
def zLG (g : zG) (N : Nat) (ks : List Nat) (post : (Nat → Nat) → Nat → Option Value → (Nat → Nat → Int32) → (Nat → Nat → Option Nat) → (Nat → Nat → Int64) → Prop) (xp : String → (Nat → Nat → Int32) → (Nat → Nat → Option Nat) → (Nat → Nat → Int64) → Prop) : (Nat → Nat) → Nat → Option Value → (Nat → Nat → Int32) → (Nat → Nat → Option Nat) → (Nat → Nat → Int64) → Prop := fun f N' v I' P' J' => (v = some (.int 0) ∧ post f N' none I' P' J') ∨ (f = g.1 ∧ N' = N ∧ ∃ i k, ks[i]? = some k ∧ v = some (.int (nI (i + 1))) ∧ xp (zEn k) I' P' J')
theorem kL_add (lx : Launch) (hst : lx.stackTraces = false) (g : zG) (sa : Nat → Nat) (N : Nat) (I : Nat → Nat → Int32) (P : Nat → Nat → Option Nat) (J : Nat → Nat → Int64) {σ : zS} (hc : zCl σ I P) (x : Int32) : z_CtL lx yL_add (zTh yL_add cL_add 4 (Option.some FieldType.int) [(0, 9, 12, 13), (0, 9, 15, 15)]) ({ frames := 8, cells := 2, slots := 12, locals := 134 } : Room) g sa N I P J [.ref (g.1 80), .int x, .ref (g.1 110)] (zLV [0, 1] (fun v I' P' J' => (∃ b, x = nI b ∧ b < 40 ∧ sEx σ b = true ∧ sGv σ < 40 ∧ v = some (.int (nI (sGv σ))) ∧ zCl (sAdd σ b) I' P') ∧ zKp I P J I' P' J') (zXp σ I P J (fun E => zc0 σ x E ∨ (E = zEn 1 ∧ sBx σ x ∧ sGv σ = 40)))) 2 12 := by
  refine z_ofL (by decide) (Nat.le_of_ble_eq_true rfl) (lv0 := [(0, .ref (g.1 80)), (1, .int x), (2, .ref (g.1 110))]) rfl ?_
  intro C hlx hC hE hRm hX hNC htb
  have hC : zX C cL_add 4 RL (zTh yL_add cL_add 4 (Option.some FieldType.int) [(0, 9, 12, 13), (0, 9, 15, 15)]) g N := hC
  refine z_aload_n (pc := 0) hC 2 dL_add_0 rfl rfl z_isr_r ?_
  refine z_iconst (pc := 1) (v := 0) hC dL_add_1 rfl ?_
  refine z_aload_n (pc := 2) hC 0 dL_add_2 rfl rfl z_isr_r ?_
  refine z_iload_n (pc := 3) hC 1 dL_add_3 rfl rfl ?_
  refine z_callVC (pc := 4) (st := [.int 0, .ref (g.1 110)]) hC hX hNC [.int x] (kX5_add C.2.1 (by rw [hlx]; exact hst) g sa N I P J hc x) rfl (z_lt hC (by decide)) rfl zkX5_add zm_2_195 ⟨rfl, rfl⟩ rfl rfl hRm ⟨Nat.le_of_ble_eq_true rfl, Nat.le_of_ble_eq_true rfl⟩ (Nat.le_of_ble_eq_true rfl) ⟨Nat.le_of_ble_eq_true rfl, Nat.le_of_ble_eq_true rfl⟩ dL_add_4 (fun E I1 P1 J1 hx => ?_) (fun v I1 P1 J1 hq => ?_)
  · skip
    have hx0 := hx
    obtain ⟨hcE, -⟩ := hx0
    have hE2 : E = zEn 0 ∨ E = zEn 1 := by rcases hcE with h | h <;> first | exact Or.inl h.1 | exact Or.inr h.1
    rcases hE2 with e | e
    · skip
      subst e
      refine ⟨0, [], _, _, by decide, rfl, htb.trans rfl, (fun z hz => by cases hz), by decide, by decide, zm_2_193, fun qx => ?_⟩
      show zJ C g N 4 2 12 I1 P1 J1 12 [(0, .ref (g.1 80)), (1, .int x), (2, .ref (g.1 110))] [.ref qx]
      refine z_astore_n (pc := 12) (lv' := [(3, .ref qx), (0, .ref (g.1 80)), (1, .int x), (2, .ref (g.1 110))]) hC dL_add_12 rfl (by decide) z_isr_r rfl ?_
      refine z_iconst (pc := 13) (v := 1) hC dL_add_13 rfl ?_
      exact z_iret (pc := 14) hC hE dL_add_14 (Or.inr ⟨0, 0, rfl, rfl, hx⟩)
    · skip
      subst e
      refine ⟨1, [_], _, _, by decide, rfl, htb.trans rfl, (fun z hz => by rcases List.mem_singleton.mp hz with rfl; exact ⟨by decide, 0, by decide, by decide, zm_2_193⟩), by decide, by decide, zm_2_194, fun qx => ?_⟩
      show zJ C g N 4 2 12 I1 P1 J1 15 [(0, .ref (g.1 80)), (1, .int x), (2, .ref (g.1 110))] [.ref qx]
      refine z_astore_n (pc := 15) (lv' := [(3, .ref qx), (0, .ref (g.1 80)), (1, .int x), (2, .ref (g.1 110))]) hC dL_add_15 rfl (by decide) z_isr_r rfl ?_
      refine z_iconst (pc := 16) (v := 2) hC dL_add_16 rfl ?_
      exact z_iret (pc := 17) hC hE dL_add_17 (Or.inr ⟨1, 1, rfl, rfl, hx⟩)
  · skip
    obtain ⟨r, hr⟩ : ∃ r, v = some (.int r) := by obtain ⟨⟨b, -, -, -, -, hv, -⟩, -⟩ := hq; exact ⟨_, hv⟩
    subst hr
    show zJ C g N 4 2 12 I1 P1 J1 7 [(0, .ref (g.1 80)), (1, .int x), (2, .ref (g.1 110))] [.int r, .int 0, .ref (g.1 110)]
    refine z_i2l (pc := 7) hC dL_add_7 ?_
    refine z_lsN (pc := 8) hC 0 rfl (z_lt hC (by decide)) rfl (by decide) (by decide) dL_add_8 ?_
    refine z_goto (pc := 9) (tgt := 18) hC dL_add_9 (by decide) ?_
    refine z_iconst (pc := 18) (v := 0) hC dL_add_18 rfl ?_
    exact z_iret (pc := 19) hC hE dL_add_19 (Or.inl ⟨rfl, r, J1, rfl, hq⟩)
theorem kL_remove (lx : Launch) (hst : lx.stackTraces = false) (g : zG) (sa : Nat → Nat) (N : Nat) (I : Nat → Nat → Int32) (P : Nat → Nat → Option Nat) (J : Nat → Nat → Int64) {σ : zS} (hc : zCl σ I P) (x : Int32) : z_CtL lx yL_remove (zTh yL_remove cL_remove 4 (Option.some FieldType.int) [(0, 9, 12, 13), (0, 9, 15, 20)]) ({ frames := 8, cells := 2, slots := 12, locals := 134 } : Room) g sa N I P J [.ref (g.1 80), .int x, .ref (g.1 110)] (zLV [0, 2] (fun v I' P' J' => (∃ b, x = nI b ∧ b < 40 ∧ sEx σ b = true ∧ b ≠ 0 ∧ v = some (.int (sCutC σ b 40)) ∧ zCl (sRem σ b) I' P') ∧ zKp I P J I' P' J') (zXp σ I P J (fun E => zc0 σ x E ∨ (E = zEn 2 ∧ x = 0)))) 2 12 := by
  refine z_ofL (by decide) (Nat.le_of_ble_eq_true rfl) (lv0 := [(0, .ref (g.1 80)), (1, .int x), (2, .ref (g.1 110))]) rfl ?_
  intro C hlx hC hE hRm hX hNC htb
  have hC : zX C cL_remove 4 RL (zTh yL_remove cL_remove 4 (Option.some FieldType.int) [(0, 9, 12, 13), (0, 9, 15, 20)]) g N := hC
  refine z_aload_n (pc := 0) hC 2 dL_remove_0 rfl rfl z_isr_r ?_
  refine z_iconst (pc := 1) (v := 0) hC dL_remove_1 rfl ?_
  refine z_aload_n (pc := 2) hC 0 dL_remove_2 rfl rfl z_isr_r ?_
  refine z_iload_n (pc := 3) hC 1 dL_remove_3 rfl rfl ?_
  refine z_callVC (pc := 4) (st := [.int 0, .ref (g.1 110)]) hC hX hNC [.int x] (kX5_remove C.2.1 (by rw [hlx]; exact hst) g sa N I P J hc x) rfl (z_lt hC (by decide)) rfl zkX5_remove zm_3_60 ⟨rfl, rfl⟩ rfl rfl hRm ⟨Nat.le_of_ble_eq_true rfl, Nat.le_of_ble_eq_true rfl⟩ (Nat.le_of_ble_eq_true rfl) ⟨Nat.le_of_ble_eq_true rfl, Nat.le_of_ble_eq_true rfl⟩ dL_remove_4 (fun E I1 P1 J1 hx => ?_) (fun v I1 P1 J1 hq => ?_)
  · skip
    have hx0 := hx
    obtain ⟨hcE, -⟩ := hx0
    have hE2 : E = zEn 0 ∨ E = zEn 2 := by rcases hcE with h | h <;> first | exact Or.inl h.1 | exact Or.inr h.1
    rcases hE2 with e | e
    · skip
      subst e
      refine ⟨0, [], _, _, by decide, rfl, htb.trans rfl, (fun z hz => by cases hz), by decide, by decide, zm_2_193, fun qx => ?_⟩
      show zJ C g N 4 2 12 I1 P1 J1 12 [(0, .ref (g.1 80)), (1, .int x), (2, .ref (g.1 110))] [.ref qx]
      refine z_astore_n (pc := 12) (lv' := [(3, .ref qx), (0, .ref (g.1 80)), (1, .int x), (2, .ref (g.1 110))]) hC dL_remove_12 rfl (by decide) z_isr_r rfl ?_
      refine z_iconst (pc := 13) (v := 1) hC dL_remove_13 rfl ?_
      exact z_iret (pc := 14) hC hE dL_remove_14 (Or.inr ⟨0, 0, rfl, rfl, hx⟩)
    · skip
      subst e
      refine ⟨2, [_], _, _, by decide, rfl, htb.trans rfl, (fun z hz => by rcases List.mem_singleton.mp hz with rfl; exact ⟨by decide, 0, by decide, by decide, zm_2_193⟩), by decide, by decide, zm_3_59, fun qx => ?_⟩
      show zJ C g N 4 2 12 I1 P1 J1 15 [(0, .ref (g.1 80)), (1, .int x), (2, .ref (g.1 110))] [.ref qx]
      refine z_astore_n (pc := 15) (lv' := [(3, .ref qx), (0, .ref (g.1 80)), (1, .int x), (2, .ref (g.1 110))]) hC dL_remove_15 rfl (by decide) z_isr_r rfl ?_
      refine z_iconst (pc := 16) (v := 2) hC dL_remove_16 rfl ?_
      exact z_iret (pc := 17) hC hE dL_remove_17 (Or.inr ⟨1, 2, rfl, rfl, hx⟩)
  · skip
    obtain ⟨r, hr⟩ : ∃ r, v = some (.int r) := by obtain ⟨⟨b, -, -, -, -, hv, -⟩, -⟩ := hq; exact ⟨_, hv⟩
    subst hr
    show zJ C g N 4 2 12 I1 P1 J1 7 [(0, .ref (g.1 80)), (1, .int x), (2, .ref (g.1 110))] [.int r, .int 0, .ref (g.1 110)]
    refine z_i2l (pc := 7) hC dL_remove_7 ?_
    refine z_lsN (pc := 8) hC 0 rfl (z_lt hC (by decide)) rfl (by decide) (by decide) dL_remove_8 ?_
    refine z_goto (pc := 9) (tgt := 18) hC dL_remove_9 (by decide) ?_
    refine z_iconst (pc := 18) (v := 0) hC dL_remove_18 rfl ?_
    exact z_iret (pc := 19) hC hE dL_remove_19 (Or.inl ⟨rfl, r, J1, rfl, hq⟩)
theorem kL_parent (lx : Launch) (hst : lx.stackTraces = false) (g : zG) (sa : Nat → Nat) (N : Nat) (I : Nat → Nat → Int32) (P : Nat → Nat → Option Nat) (J : Nat → Nat → Int64) {σ : zS} (hc : zCl σ I P) (x : Int32) : z_CtL lx yL_parent (zTh yL_parent cL_parent 4 (Option.some FieldType.int) [(0, 9, 12, 13)]) ({ frames := 8, cells := 1, slots := 6, locals := 133 } : Room) g sa N I P J [.ref (g.1 80), .int x, .ref (g.1 110)] (zLV [0] (fun v I' P' J' => (∃ b, x = nI b ∧ b < 40 ∧ sEx σ b = true ∧ v = some (.int (sPnu σ b))) ∧ zCl σ I' P' ∧ zKp I P J I' P' J') (zXp σ I P J (fun E => zc0 σ x E))) 1 6 := by
  refine z_ofL (by decide) (Nat.le_of_ble_eq_true rfl) (lv0 := [(0, .ref (g.1 80)), (1, .int x), (2, .ref (g.1 110))]) rfl ?_
  intro C hlx hC hE hRm hX hNC htb
  have hC : zX C cL_parent 4 RL (zTh yL_parent cL_parent 4 (Option.some FieldType.int) [(0, 9, 12, 13)]) g N := hC
  refine z_aload_n (pc := 0) hC 2 dL_parent_0 rfl rfl z_isr_r ?_
  refine z_iconst (pc := 1) (v := 0) hC dL_parent_1 rfl ?_
  refine z_aload_n (pc := 2) hC 0 dL_parent_2 rfl rfl z_isr_r ?_
  refine z_iload_n (pc := 3) hC 1 dL_parent_3 rfl rfl ?_
  refine z_callVC (pc := 4) (st := [.int 0, .ref (g.1 110)]) hC hX hNC [.int x] (kX5_parent C.2.1 (by rw [hlx]; exact hst) g sa N I P J hc x) rfl (z_lt hC (by decide)) rfl zkX5_parent zm_3_88 ⟨rfl, rfl⟩ rfl rfl hRm ⟨Nat.le_of_ble_eq_true rfl, Nat.le_of_ble_eq_true rfl⟩ (Nat.le_of_ble_eq_true rfl) ⟨Nat.le_of_ble_eq_true rfl, Nat.le_of_ble_eq_true rfl⟩ dL_parent_4 (fun E I1 P1 J1 hx => ?_) (fun v I1 P1 J1 hq => ?_)
  · skip
    have hx0 := hx
    obtain ⟨hcE, -⟩ := hx0
    have hE2 : E = zEn 0 := by exact hcE.1
    have e := hE2
    · skip
      subst e
      refine ⟨0, [], _, _, by decide, rfl, htb.trans rfl, (fun z hz => by cases hz), by decide, by decide, zm_2_193, fun qx => ?_⟩
      show zJ C g N 4 1 6 I1 P1 J1 12 [(0, .ref (g.1 80)), (1, .int x), (2, .ref (g.1 110))] [.ref qx]
      refine z_astore_n (pc := 12) (lv' := [(3, .ref qx), (0, .ref (g.1 80)), (1, .int x), (2, .ref (g.1 110))]) hC dL_parent_12 rfl (by decide) z_isr_r rfl ?_
      refine z_iconst (pc := 13) (v := 1) hC dL_parent_13 rfl ?_
      exact z_iret (pc := 14) hC hE dL_parent_14 (Or.inr ⟨0, 0, rfl, rfl, hx⟩)
  · skip
    obtain ⟨r, hr⟩ : ∃ r, v = some (.int r) := by obtain ⟨⟨b, -, -, -, hv⟩, -⟩ := hq; exact ⟨_, hv⟩
    subst hr
    show zJ C g N 4 1 6 I1 P1 J1 7 [(0, .ref (g.1 80)), (1, .int x), (2, .ref (g.1 110))] [.int r, .int 0, .ref (g.1 110)]
    refine z_i2l (pc := 7) hC dL_parent_7 ?_
    refine z_lsN (pc := 8) hC 0 rfl (z_lt hC (by decide)) rfl (by decide) (by decide) dL_parent_8 ?_
    refine z_goto (pc := 9) (tgt := 15) hC dL_parent_9 (by decide) ?_
    refine z_iconst (pc := 15) (v := 0) hC dL_parent_15 rfl ?_
    exact z_iret (pc := 16) hC hE dL_parent_16 (Or.inl ⟨rfl, r, J1, rfl, hq⟩)
theorem kL_child (lx : Launch) (hst : lx.stackTraces = false) (g : zG) (sa : Nat → Nat) (N : Nat) (I : Nat → Nat → Int32) (P : Nat → Nat → Option Nat) (J : Nat → Nat → Int64) {σ : zS} (hc : zCl σ I P) (x i : Int32) : z_CtL lx yL_child (zTh yL_child cL_child 5 (Option.some FieldType.int) [(0, 10, 13, 13)]) ({ frames := 8, cells := 1, slots := 6, locals := 188 } : Room) g sa N I P J [.ref (g.1 80), .int x, .int i, .ref (g.1 110)] (zLV [0] (fun v I' P' J' => (∃ b, x = nI b ∧ b < 40 ∧ sEx σ b = true ∧ v = some (.int (sChl σ b i))) ∧ zCl σ I' P' ∧ zKp I P J I' P' J') (zXp σ I P J (fun E => zc0 σ x E))) 1 6 := by
  refine z_ofL (by decide) (Nat.le_of_ble_eq_true rfl) (lv0 := [(0, .ref (g.1 80)), (1, .int x), (2, .int i), (3, .ref (g.1 110))]) rfl ?_
  intro C hlx hC hE hRm hX hNC htb
  have hC : zX C cL_child 5 RL (zTh yL_child cL_child 5 (Option.some FieldType.int) [(0, 10, 13, 13)]) g N := hC
  refine z_aload_n (pc := 0) hC 3 dL_child_0 rfl rfl z_isr_r ?_
  refine z_iconst (pc := 1) (v := 0) hC dL_child_1 rfl ?_
  refine z_aload_n (pc := 2) hC 0 dL_child_2 rfl rfl z_isr_r ?_
  refine z_iload_n (pc := 3) hC 1 dL_child_3 rfl rfl ?_
  refine z_iload_n (pc := 4) hC 2 dL_child_4 rfl rfl ?_
  refine z_callVC (pc := 5) (st := [.int 0, .ref (g.1 110)]) hC hX hNC [.int x, .int i] (kX5_child C.2.1 (by rw [hlx]; exact hst) g sa N I P J hc x i) rfl (z_lt hC (by decide)) rfl zkX5_child zm_3_99 ⟨rfl, rfl⟩ rfl rfl hRm ⟨Nat.le_of_ble_eq_true rfl, Nat.le_of_ble_eq_true rfl⟩ (Nat.le_of_ble_eq_true rfl) ⟨Nat.le_of_ble_eq_true rfl, Nat.le_of_ble_eq_true rfl⟩ dL_child_5 (fun E I1 P1 J1 hx => ?_) (fun v I1 P1 J1 hq => ?_)
  · skip
    have hx0 := hx
    obtain ⟨hcE, -⟩ := hx0
    have hE2 : E = zEn 0 := by exact hcE.1
    have e := hE2
    · skip
      subst e
      refine ⟨0, [], _, _, by decide, rfl, htb.trans rfl, (fun z hz => by cases hz), by decide, by decide, zm_2_193, fun qx => ?_⟩
      show zJ C g N 5 1 6 I1 P1 J1 13 [(0, .ref (g.1 80)), (1, .int x), (2, .int i), (3, .ref (g.1 110))] [.ref qx]
      refine z_astore (pc := 13) (lv' := [(4, .ref qx), (0, .ref (g.1 80)), (1, .int x), (2, .int i), (3, .ref (g.1 110))]) hC dL_child_13 (by decide) z_isr_r rfl ?_
      refine z_iconst (pc := 15) (v := 1) hC dL_child_15 rfl ?_
      exact z_iret (pc := 16) hC hE dL_child_16 (Or.inr ⟨0, 0, rfl, rfl, hx⟩)
  · skip
    obtain ⟨r, hr⟩ : ∃ r, v = some (.int r) := by obtain ⟨⟨b, -, -, -, hv⟩, -⟩ := hq; exact ⟨_, hv⟩
    subst hr
    show zJ C g N 5 1 6 I1 P1 J1 8 [(0, .ref (g.1 80)), (1, .int x), (2, .int i), (3, .ref (g.1 110))] [.int r, .int 0, .ref (g.1 110)]
    refine z_i2l (pc := 8) hC dL_child_8 ?_
    refine z_lsN (pc := 9) hC 0 rfl (z_lt hC (by decide)) rfl (by decide) (by decide) dL_child_9 ?_
    refine z_goto (pc := 10) (tgt := 17) hC dL_child_10 (by decide) ?_
    refine z_iconst (pc := 17) (v := 0) hC dL_child_17 rfl ?_
    exact z_iret (pc := 18) hC hE dL_child_18 (Or.inl ⟨rfl, r, J1, rfl, hq⟩)
theorem kL_set (lx : Launch) (hst : lx.stackTraces = false) (g : zG) (sa : Nat → Nat) (N : Nat) (I : Nat → Nat → Int32) (P : Nat → Nat → Option Nat) (J : Nat → Nat → Int64) {σ : zS} (hc : zCl σ I P) (x q v : Int32) : z_CtL lx yL_set (zTh yL_set cL_set 6 (Option.some FieldType.int) [(0, 12, 15, 13), (0, 12, 19, 20)]) ({ frames := 8, cells := 2, slots := 12, locals := 136 } : Room) g sa N I P J [.ref (g.1 80), .int x, .int q, .int v, .ref (g.1 110)] (zLV [0, 2] (fun r I' P' J' => (∃ b k, x = nI b ∧ q = nI k ∧ b < 40 ∧ sEx σ b = true ∧ k < 20 ∧ (z_st 0 k ≤ v ∧ v ≤ z_st 1 k) ∧ r = some (.int (sSt σ b k)) ∧ zCl (sSet σ b k v) I' P') ∧ zKp I P J I' P' J') (zXp σ I P J (fun E => zc0 σ x E ∨ (E = zEn 2 ∧ sBx σ x ∧ ¬ sOk q v)))) 2 12 := by
  refine z_ofL (by decide) (Nat.le_of_ble_eq_true rfl) (lv0 := [(0, .ref (g.1 80)), (1, .int x), (2, .int q), (3, .int v), (4, .ref (g.1 110))]) rfl ?_
  intro C hlx hC hE hRm hX hNC htb
  have hC : zX C cL_set 6 RL (zTh yL_set cL_set 6 (Option.some FieldType.int) [(0, 12, 15, 13), (0, 12, 19, 20)]) g N := hC
  refine z_aload (pc := 0) hC 4 dL_set_0 rfl z_isr_r ?_
  refine z_iconst (pc := 2) (v := 0) hC dL_set_2 rfl ?_
  refine z_aload_n (pc := 3) hC 0 dL_set_3 rfl rfl z_isr_r ?_
  refine z_iload_n (pc := 4) hC 1 dL_set_4 rfl rfl ?_
  refine z_iload_n (pc := 5) hC 2 dL_set_5 rfl rfl ?_
  refine z_iload_n (pc := 6) hC 3 dL_set_6 rfl rfl ?_
  refine z_callVC (pc := 7) (st := [.int 0, .ref (g.1 110)]) hC hX hNC [.int x, .int q, .int v] (kX5_set C.2.1 (by rw [hlx]; exact hst) g sa N I P J hc x q v) rfl (z_lt hC (by decide)) rfl zkX5_set zm_3_106 ⟨rfl, rfl⟩ rfl rfl hRm ⟨Nat.le_of_ble_eq_true rfl, Nat.le_of_ble_eq_true rfl⟩ (Nat.le_of_ble_eq_true rfl) ⟨Nat.le_of_ble_eq_true rfl, Nat.le_of_ble_eq_true rfl⟩ dL_set_7 (fun E I1 P1 J1 hx => ?_) (fun v I1 P1 J1 hq => ?_)
  · skip
    have hx0 := hx
    obtain ⟨hcE, -⟩ := hx0
    have hE2 : E = zEn 0 ∨ E = zEn 2 := by rcases hcE with h | h <;> first | exact Or.inl h.1 | exact Or.inr h.1
    rcases hE2 with e | e
    · skip
      subst e
      refine ⟨0, [], _, _, by decide, rfl, htb.trans rfl, (fun z hz => by cases hz), by decide, by decide, zm_2_193, fun qx => ?_⟩
      show zJ C g N 6 2 12 I1 P1 J1 15 [(0, .ref (g.1 80)), (1, .int x), (2, .int q), (3, .int v), (4, .ref (g.1 110))] [.ref qx]
      refine z_astore (pc := 15) (lv' := [(5, .ref qx), (0, .ref (g.1 80)), (1, .int x), (2, .int q), (3, .int v), (4, .ref (g.1 110))]) hC dL_set_15 (by decide) z_isr_r rfl ?_
      refine z_iconst (pc := 17) (v := 1) hC dL_set_17 rfl ?_
      exact z_iret (pc := 18) hC hE dL_set_18 (Or.inr ⟨0, 0, rfl, rfl, hx⟩)
    · skip
      subst e
      refine ⟨2, [_], _, _, by decide, rfl, htb.trans rfl, (fun z hz => by rcases List.mem_singleton.mp hz with rfl; exact ⟨by decide, 0, by decide, by decide, zm_2_193⟩), by decide, by decide, zm_3_59, fun qx => ?_⟩
      show zJ C g N 6 2 12 I1 P1 J1 19 [(0, .ref (g.1 80)), (1, .int x), (2, .int q), (3, .int v), (4, .ref (g.1 110))] [.ref qx]
      refine z_astore (pc := 19) (lv' := [(5, .ref qx), (0, .ref (g.1 80)), (1, .int x), (2, .int q), (3, .int v), (4, .ref (g.1 110))]) hC dL_set_19 (by decide) z_isr_r rfl ?_
      refine z_iconst (pc := 21) (v := 2) hC dL_set_21 rfl ?_
      exact z_iret (pc := 22) hC hE dL_set_22 (Or.inr ⟨1, 2, rfl, rfl, hx⟩)
  · skip
    obtain ⟨r, hr⟩ : ∃ r, v = some (.int r) := by obtain ⟨⟨b, k, -, -, -, -, -, -, hv, -⟩, -⟩ := hq; exact ⟨_, hv⟩
    subst hr
    show zJ C g N 6 2 12 I1 P1 J1 10 [(0, .ref (g.1 80)), (1, .int x), (2, .int q), (3, .int v), (4, .ref (g.1 110))] [.int r, .int 0, .ref (g.1 110)]
    refine z_i2l (pc := 10) hC dL_set_10 ?_
    refine z_lsN (pc := 11) hC 0 rfl (z_lt hC (by decide)) rfl (by decide) (by decide) dL_set_11 ?_
    refine z_goto (pc := 12) (tgt := 23) hC dL_set_12 (by decide) ?_
    refine z_iconst (pc := 23) (v := 0) hC dL_set_23 rfl ?_
    exact z_iret (pc := 24) hC hE dL_set_24 (Or.inl ⟨rfl, r, J1, rfl, hq⟩)
theorem kL_get (lx : Launch) (hst : lx.stackTraces = false) (g : zG) (sa : Nat → Nat) (N : Nat) (I : Nat → Nat → Int32) (P : Nat → Nat → Option Nat) (J : Nat → Nat → Int64) {σ : zS} (hc : zCl σ I P) (x q : Int32) : z_CtL lx yL_get (zTh yL_get cL_get 5 (Option.some FieldType.int) [(0, 10, 13, 13), (0, 10, 17, 20)]) ({ frames := 8, cells := 2, slots := 12, locals := 135 } : Room) g sa N I P J [.ref (g.1 80), .int x, .int q, .ref (g.1 110)] (zLV [0, 2] (fun v I' P' J' => (∃ b k, x = nI b ∧ q = nI k ∧ b < 40 ∧ sEx σ b = true ∧ k < 20 ∧ v = some (.int (sSt σ b k))) ∧ zCl σ I' P' ∧ zKp I P J I' P' J') (zXp σ I P J (fun E => zc0 σ x E ∨ (E = zEn 2 ∧ sBx σ x ∧ ¬ (0 ≤ q ∧ q < 20))))) 2 12 := by
  refine z_ofL (by decide) (Nat.le_of_ble_eq_true rfl) (lv0 := [(0, .ref (g.1 80)), (1, .int x), (2, .int q), (3, .ref (g.1 110))]) rfl ?_
  intro C hlx hC hE hRm hX hNC htb
  have hC : zX C cL_get 5 RL (zTh yL_get cL_get 5 (Option.some FieldType.int) [(0, 10, 13, 13), (0, 10, 17, 20)]) g N := hC
  refine z_aload_n (pc := 0) hC 3 dL_get_0 rfl rfl z_isr_r ?_
  refine z_iconst (pc := 1) (v := 0) hC dL_get_1 rfl ?_
  refine z_aload_n (pc := 2) hC 0 dL_get_2 rfl rfl z_isr_r ?_
  refine z_iload_n (pc := 3) hC 1 dL_get_3 rfl rfl ?_
  refine z_iload_n (pc := 4) hC 2 dL_get_4 rfl rfl ?_
  refine z_callVC (pc := 5) (st := [.int 0, .ref (g.1 110)]) hC hX hNC [.int x, .int q] (kX5_get C.2.1 (by rw [hlx]; exact hst) g sa N I P J hc x q) rfl (z_lt hC (by decide)) rfl zkX5_get zm_3_127 ⟨rfl, rfl⟩ rfl rfl hRm ⟨Nat.le_of_ble_eq_true rfl, Nat.le_of_ble_eq_true rfl⟩ (Nat.le_of_ble_eq_true rfl) ⟨Nat.le_of_ble_eq_true rfl, Nat.le_of_ble_eq_true rfl⟩ dL_get_5 (fun E I1 P1 J1 hx => ?_) (fun v I1 P1 J1 hq => ?_)
  · skip
    have hx0 := hx
    obtain ⟨hcE, -⟩ := hx0
    have hE2 : E = zEn 0 ∨ E = zEn 2 := by rcases hcE with h | h <;> first | exact Or.inl h.1 | exact Or.inr h.1
    rcases hE2 with e | e
    · skip
      subst e
      refine ⟨0, [], _, _, by decide, rfl, htb.trans rfl, (fun z hz => by cases hz), by decide, by decide, zm_2_193, fun qx => ?_⟩
      show zJ C g N 5 2 12 I1 P1 J1 13 [(0, .ref (g.1 80)), (1, .int x), (2, .int q), (3, .ref (g.1 110))] [.ref qx]
      refine z_astore (pc := 13) (lv' := [(4, .ref qx), (0, .ref (g.1 80)), (1, .int x), (2, .int q), (3, .ref (g.1 110))]) hC dL_get_13 (by decide) z_isr_r rfl ?_
      refine z_iconst (pc := 15) (v := 1) hC dL_get_15 rfl ?_
      exact z_iret (pc := 16) hC hE dL_get_16 (Or.inr ⟨0, 0, rfl, rfl, hx⟩)
    · skip
      subst e
      refine ⟨2, [_], _, _, by decide, rfl, htb.trans rfl, (fun z hz => by rcases List.mem_singleton.mp hz with rfl; exact ⟨by decide, 0, by decide, by decide, zm_2_193⟩), by decide, by decide, zm_3_59, fun qx => ?_⟩
      show zJ C g N 5 2 12 I1 P1 J1 17 [(0, .ref (g.1 80)), (1, .int x), (2, .int q), (3, .ref (g.1 110))] [.ref qx]
      refine z_astore (pc := 17) (lv' := [(4, .ref qx), (0, .ref (g.1 80)), (1, .int x), (2, .int q), (3, .ref (g.1 110))]) hC dL_get_17 (by decide) z_isr_r rfl ?_
      refine z_iconst (pc := 19) (v := 2) hC dL_get_19 rfl ?_
      exact z_iret (pc := 20) hC hE dL_get_20 (Or.inr ⟨1, 2, rfl, rfl, hx⟩)
  · skip
    obtain ⟨r, hr⟩ : ∃ r, v = some (.int r) := by obtain ⟨⟨b, k, -, -, -, -, -, hv⟩, -⟩ := hq; exact ⟨_, hv⟩
    subst hr
    show zJ C g N 5 2 12 I1 P1 J1 8 [(0, .ref (g.1 80)), (1, .int x), (2, .int q), (3, .ref (g.1 110))] [.int r, .int 0, .ref (g.1 110)]
    refine z_i2l (pc := 8) hC dL_get_8 ?_
    refine z_lsN (pc := 9) hC 0 rfl (z_lt hC (by decide)) rfl (by decide) (by decide) dL_get_9 ?_
    refine z_goto (pc := 10) (tgt := 21) hC dL_get_10 (by decide) ?_
    refine z_iconst (pc := 21) (v := 0) hC dL_get_21 rfl ?_
    exact z_iret (pc := 22) hC hE dL_get_22 (Or.inl ⟨rfl, r, J1, rfl, hq⟩)
theorem kL_copyStyle (lx : Launch) (hst : lx.stackTraces = false) (g : zG) (sa : Nat → Nat) (N : Nat) (I : Nat → Nat → Int32) (P : Nat → Nat → Option Nat) (J : Nat → Nat → Int64) {σ : zS} (hc : zCl σ I P) (x y : Int32) : z_CtL lx yL_copyStyle (zTh yL_copyStyle cL_copyStyle 5 (Option.some FieldType.int) [(0, 10, 13, 13)]) ({ frames := 8, cells := 2, slots := 12, locals := 139 } : Room) g sa N I P J [.ref (g.1 80), .int x, .int y, .ref (g.1 110)] (zLV [0] (fun v I' P' J' => (∃ a b, x = nI a ∧ y = nI b ∧ a < 40 ∧ b < 40 ∧ sEx σ a = true ∧ sEx σ b = true ∧ v = some (.int (nI (sCpC σ a b 17))) ∧ zCl (sCpy σ a b) I' P') ∧ zKp I P J I' P' J') (zXp σ I P J (fun E => zc0 σ x E ∨ zc0 σ y E))) 2 12 := by
  refine z_ofL (by decide) (Nat.le_of_ble_eq_true rfl) (lv0 := [(0, .ref (g.1 80)), (1, .int x), (2, .int y), (3, .ref (g.1 110))]) rfl ?_
  intro C hlx hC hE hRm hX hNC htb
  have hC : zX C cL_copyStyle 5 RL (zTh yL_copyStyle cL_copyStyle 5 (Option.some FieldType.int) [(0, 10, 13, 13)]) g N := hC
  refine z_aload_n (pc := 0) hC 3 dL_copyStyle_0 rfl rfl z_isr_r ?_
  refine z_iconst (pc := 1) (v := 0) hC dL_copyStyle_1 rfl ?_
  refine z_aload_n (pc := 2) hC 0 dL_copyStyle_2 rfl rfl z_isr_r ?_
  refine z_iload_n (pc := 3) hC 1 dL_copyStyle_3 rfl rfl ?_
  refine z_iload_n (pc := 4) hC 2 dL_copyStyle_4 rfl rfl ?_
  refine z_callVC (pc := 5) (st := [.int 0, .ref (g.1 110)]) hC hX hNC [.int x, .int y] (kX5_copyStyle C.2.1 (by rw [hlx]; exact hst) g sa N I P J hc x y) rfl (z_lt hC (by decide)) rfl zkX5_copyStyle zm_3_135 ⟨rfl, rfl⟩ rfl rfl hRm ⟨Nat.le_of_ble_eq_true rfl, Nat.le_of_ble_eq_true rfl⟩ (Nat.le_of_ble_eq_true rfl) ⟨Nat.le_of_ble_eq_true rfl, Nat.le_of_ble_eq_true rfl⟩ dL_copyStyle_5 (fun E I1 P1 J1 hx => ?_) (fun v I1 P1 J1 hq => ?_)
  · skip
    have hx0 := hx
    obtain ⟨hcE, -⟩ := hx0
    have hE2 : E = zEn 0 := by rcases hcE with h | h <;> exact h.1
    have e := hE2
    · skip
      subst e
      refine ⟨0, [], _, _, by decide, rfl, htb.trans rfl, (fun z hz => by cases hz), by decide, by decide, zm_2_193, fun qx => ?_⟩
      show zJ C g N 5 2 12 I1 P1 J1 13 [(0, .ref (g.1 80)), (1, .int x), (2, .int y), (3, .ref (g.1 110))] [.ref qx]
      refine z_astore (pc := 13) (lv' := [(4, .ref qx), (0, .ref (g.1 80)), (1, .int x), (2, .int y), (3, .ref (g.1 110))]) hC dL_copyStyle_13 (by decide) z_isr_r rfl ?_
      refine z_iconst (pc := 15) (v := 1) hC dL_copyStyle_15 rfl ?_
      exact z_iret (pc := 16) hC hE dL_copyStyle_16 (Or.inr ⟨0, 0, rfl, rfl, hx⟩)
  · skip
    obtain ⟨r, hr⟩ : ∃ r, v = some (.int r) := by obtain ⟨⟨a, b, -, -, -, -, -, -, hv, -⟩, -⟩ := hq; exact ⟨_, hv⟩
    subst hr
    show zJ C g N 5 2 12 I1 P1 J1 8 [(0, .ref (g.1 80)), (1, .int x), (2, .int y), (3, .ref (g.1 110))] [.int r, .int 0, .ref (g.1 110)]
    refine z_i2l (pc := 8) hC dL_copyStyle_8 ?_
    refine z_lsN (pc := 9) hC 0 rfl (z_lt hC (by decide)) rfl (by decide) (by decide) dL_copyStyle_9 ?_
    refine z_goto (pc := 10) (tgt := 17) hC dL_copyStyle_10 (by decide) ?_
    refine z_iconst (pc := 17) (v := 0) hC dL_copyStyle_17 rfl ?_
    exact z_iret (pc := 18) hC hE dL_copyStyle_18 (Or.inl ⟨rfl, r, J1, rfl, hq⟩)
theorem kL_viewport (lx : Launch) (hst : lx.stackTraces = false) (g : zG) (sa : Nat → Nat) (N : Nat) (I : Nat → Nat → Int32) (P : Nat → Nat → Option Nat) (J : Nat → Nat → Int64) {σ : zS} (hc : zCl σ I P) (x y : Int32) : z_CtL lx yL_viewport (zTh yL_viewport cL_viewport 4 (Option.some FieldType.int) [(0, 6, 9, 20)]) ({ frames := 7, cells := 1, slots := 6, locals := 112 } : Room) g sa N I P J [.ref (g.1 80), .int x, .int y] (zLN [2] (fun r I' P' J' => ((0 ≤ x ∧ x ≤ 2000) ∧ 0 ≤ y ∧ y ≤ 2000) ∧ r = none ∧ zCl (sVp σ x y) I' P' ∧ zKp I P J I' P' J') (zXp σ I P J (fun E => E = zEn 2 ∧ ¬ ((0 ≤ x ∧ x ≤ 2000) ∧ 0 ≤ y ∧ y ≤ 2000)))) 1 6 := by
  refine z_ofL (by decide) (Nat.le_of_ble_eq_true rfl) (lv0 := [(0, .ref (g.1 80)), (1, .int x), (2, .int y)]) rfl ?_
  intro C hlx hC hE hRm hX hNC htb
  have hC : zX C cL_viewport 4 RL (zTh yL_viewport cL_viewport 4 (Option.some FieldType.int) [(0, 6, 9, 20)]) g N := hC
  refine z_aload_n (pc := 0) hC 0 dL_viewport_0 rfl rfl z_isr_r ?_
  refine z_iload_n (pc := 1) hC 1 dL_viewport_1 rfl rfl ?_
  refine z_iload_n (pc := 2) hC 2 dL_viewport_2 rfl rfl ?_
  refine z_callVC (pc := 3) (st := []) hC hX hNC [.int x, .int y] (kX5_viewport C.2.1 (by rw [hlx]; exact hst) g sa N I P J hc x y) rfl (z_lt hC (by decide)) rfl zkX5_viewport zm_3_142 ⟨rfl, rfl⟩ rfl rfl hRm ⟨Nat.le_of_ble_eq_true rfl, Nat.le_of_ble_eq_true rfl⟩ (Nat.le_of_ble_eq_true rfl) ⟨Nat.le_of_ble_eq_true rfl, Nat.le_of_ble_eq_true rfl⟩ dL_viewport_3 (fun E I1 P1 J1 hx => ?_) (fun v I1 P1 J1 hq => ?_)
  · skip
    have hx0 := hx
    obtain ⟨hcE, -⟩ := hx0
    have hE2 : E = zEn 2 := by exact hcE.1
    have e := hE2
    · skip
      subst e
      refine ⟨2, [], _, _, by decide, rfl, htb.trans rfl, (fun z hz => by cases hz), by decide, by decide, zm_3_59, fun qx => ?_⟩
      show zJ C g N 4 1 6 I1 P1 J1 9 [(0, .ref (g.1 80)), (1, .int x), (2, .int y)] [.ref qx]
      refine z_astore_n (pc := 9) (lv' := [(3, .ref qx), (0, .ref (g.1 80)), (1, .int x), (2, .int y)]) hC dL_viewport_9 rfl (by decide) z_isr_r rfl ?_
      refine z_iconst (pc := 10) (v := 1) hC dL_viewport_10 rfl ?_
      exact z_iret (pc := 11) hC hE dL_viewport_11 (Or.inr ⟨0, 2, rfl, rfl, hx⟩)
  · skip
    have hv0 : v = none := by exact hq.2.1
    subst hv0
    show zJ C g N 4 1 6 I1 P1 J1 6 [(0, .ref (g.1 80)), (1, .int x), (2, .int y)] []
    refine z_goto (pc := 6) (tgt := 12) hC dL_viewport_6 (by decide) ?_
    refine z_iconst (pc := 12) (v := 0) hC dL_viewport_12 rfl ?_
    exact z_iret (pc := 13) hC hE dL_viewport_13 (Or.inl ⟨rfl, hq⟩)
theorem kL_x (lx : Launch) (hst : lx.stackTraces = false) (g : zG) (sa : Nat → Nat) (N : Nat) (I : Nat → Nat → Int32) (P : Nat → Nat → Option Nat) (J : Nat → Nat → Int64) {σ : zS} (hc : zCl σ I P) (x : Int32) : z_CtL lx yL_x (zTh yL_x cL_x 4 (Option.some FieldType.int) [(0, 9, 12, 13), (0, 9, 15, 15)]) ({ frames := 8, cells := 2, slots := 12, locals := 205 } : Room) g sa N I P J [.ref (g.1 80), .int x, .ref (g.1 110)] (zLV [0, 1] (zGt σ x (fun b => sX σ b) I P J) (zXp σ I P J (fun E => zc0 σ x E ∨ zc1 σ x E))) 2 12 := by
  refine z_ofL (by decide) (Nat.le_of_ble_eq_true rfl) (lv0 := [(0, .ref (g.1 80)), (1, .int x), (2, .ref (g.1 110))]) rfl ?_
  intro C hlx hC hE hRm hX hNC htb
  have hC : zX C cL_x 4 RL (zTh yL_x cL_x 4 (Option.some FieldType.int) [(0, 9, 12, 13), (0, 9, 15, 15)]) g N := hC
  refine z_aload_n (pc := 0) hC 2 dL_x_0 rfl rfl z_isr_r ?_
  refine z_iconst (pc := 1) (v := 0) hC dL_x_1 rfl ?_
  refine z_aload_n (pc := 2) hC 0 dL_x_2 rfl rfl z_isr_r ?_
  refine z_iload_n (pc := 3) hC 1 dL_x_3 rfl rfl ?_
  refine z_callVC (pc := 4) (st := [.int 0, .ref (g.1 110)]) hC hX hNC [.int x] (kX5_x C.2.1 (by rw [hlx]; exact hst) g sa N I P J hc x) rfl (z_lt hC (by decide)) rfl zkX5_x zm_3_153 ⟨rfl, rfl⟩ rfl rfl hRm ⟨Nat.le_of_ble_eq_true rfl, Nat.le_of_ble_eq_true rfl⟩ (Nat.le_of_ble_eq_true rfl) ⟨Nat.le_of_ble_eq_true rfl, Nat.le_of_ble_eq_true rfl⟩ dL_x_4 (fun E I1 P1 J1 hx => ?_) (fun v I1 P1 J1 hq => ?_)
  · skip
    have hx0 := hx
    obtain ⟨hcE, -⟩ := hx0
    have hE2 : E = zEn 0 ∨ E = zEn 1 := by rcases hcE with h | h <;> first | exact Or.inl h.1 | exact Or.inr h.1
    rcases hE2 with e | e
    · skip
      subst e
      refine ⟨0, [], _, _, by decide, rfl, htb.trans rfl, (fun z hz => by cases hz), by decide, by decide, zm_2_193, fun qx => ?_⟩
      show zJ C g N 4 2 12 I1 P1 J1 12 [(0, .ref (g.1 80)), (1, .int x), (2, .ref (g.1 110))] [.ref qx]
      refine z_astore_n (pc := 12) (lv' := [(3, .ref qx), (0, .ref (g.1 80)), (1, .int x), (2, .ref (g.1 110))]) hC dL_x_12 rfl (by decide) z_isr_r rfl ?_
      refine z_iconst (pc := 13) (v := 1) hC dL_x_13 rfl ?_
      exact z_iret (pc := 14) hC hE dL_x_14 (Or.inr ⟨0, 0, rfl, rfl, hx⟩)
    · skip
      subst e
      refine ⟨1, [_], _, _, by decide, rfl, htb.trans rfl, (fun z hz => by rcases List.mem_singleton.mp hz with rfl; exact ⟨by decide, 0, by decide, by decide, zm_2_193⟩), by decide, by decide, zm_2_194, fun qx => ?_⟩
      show zJ C g N 4 2 12 I1 P1 J1 15 [(0, .ref (g.1 80)), (1, .int x), (2, .ref (g.1 110))] [.ref qx]
      refine z_astore_n (pc := 15) (lv' := [(3, .ref qx), (0, .ref (g.1 80)), (1, .int x), (2, .ref (g.1 110))]) hC dL_x_15 rfl (by decide) z_isr_r rfl ?_
      refine z_iconst (pc := 16) (v := 2) hC dL_x_16 rfl ?_
      exact z_iret (pc := 17) hC hE dL_x_17 (Or.inr ⟨1, 1, rfl, rfl, hx⟩)
  · skip
    obtain ⟨r, hr⟩ : ∃ r, v = some (.int r) := by obtain ⟨⟨b, -, -, hv⟩, -⟩ := hq; exact ⟨_, hv⟩
    subst hr
    show zJ C g N 4 2 12 I1 P1 J1 7 [(0, .ref (g.1 80)), (1, .int x), (2, .ref (g.1 110))] [.int r, .int 0, .ref (g.1 110)]
    refine z_i2l (pc := 7) hC dL_x_7 ?_
    refine z_lsN (pc := 8) hC 0 rfl (z_lt hC (by decide)) rfl (by decide) (by decide) dL_x_8 ?_
    refine z_goto (pc := 9) (tgt := 18) hC dL_x_9 (by decide) ?_
    refine z_iconst (pc := 18) (v := 0) hC dL_x_18 rfl ?_
    exact z_iret (pc := 19) hC hE dL_x_19 (Or.inl ⟨rfl, r, J1, rfl, hq⟩)
theorem kL_y (lx : Launch) (hst : lx.stackTraces = false) (g : zG) (sa : Nat → Nat) (N : Nat) (I : Nat → Nat → Int32) (P : Nat → Nat → Option Nat) (J : Nat → Nat → Int64) {σ : zS} (hc : zCl σ I P) (x : Int32) : z_CtL lx yL_y (zTh yL_y cL_y 4 (Option.some FieldType.int) [(0, 9, 12, 13), (0, 9, 15, 15)]) ({ frames := 8, cells := 2, slots := 12, locals := 205 } : Room) g sa N I P J [.ref (g.1 80), .int x, .ref (g.1 110)] (zLV [0, 1] (zGt σ x (fun b => sY σ b) I P J) (zXp σ I P J (fun E => zc0 σ x E ∨ zc1 σ x E))) 2 12 := by
  refine z_ofL (by decide) (Nat.le_of_ble_eq_true rfl) (lv0 := [(0, .ref (g.1 80)), (1, .int x), (2, .ref (g.1 110))]) rfl ?_
  intro C hlx hC hE hRm hX hNC htb
  have hC : zX C cL_y 4 RL (zTh yL_y cL_y 4 (Option.some FieldType.int) [(0, 9, 12, 13), (0, 9, 15, 15)]) g N := hC
  refine z_aload_n (pc := 0) hC 2 dL_y_0 rfl rfl z_isr_r ?_
  refine z_iconst (pc := 1) (v := 0) hC dL_y_1 rfl ?_
  refine z_aload_n (pc := 2) hC 0 dL_y_2 rfl rfl z_isr_r ?_
  refine z_iload_n (pc := 3) hC 1 dL_y_3 rfl rfl ?_
  refine z_callVC (pc := 4) (st := [.int 0, .ref (g.1 110)]) hC hX hNC [.int x] (kX5_y C.2.1 (by rw [hlx]; exact hst) g sa N I P J hc x) rfl (z_lt hC (by decide)) rfl zkX5_y zm_3_165 ⟨rfl, rfl⟩ rfl rfl hRm ⟨Nat.le_of_ble_eq_true rfl, Nat.le_of_ble_eq_true rfl⟩ (Nat.le_of_ble_eq_true rfl) ⟨Nat.le_of_ble_eq_true rfl, Nat.le_of_ble_eq_true rfl⟩ dL_y_4 (fun E I1 P1 J1 hx => ?_) (fun v I1 P1 J1 hq => ?_)
  · skip
    have hx0 := hx
    obtain ⟨hcE, -⟩ := hx0
    have hE2 : E = zEn 0 ∨ E = zEn 1 := by rcases hcE with h | h <;> first | exact Or.inl h.1 | exact Or.inr h.1
    rcases hE2 with e | e
    · skip
      subst e
      refine ⟨0, [], _, _, by decide, rfl, htb.trans rfl, (fun z hz => by cases hz), by decide, by decide, zm_2_193, fun qx => ?_⟩
      show zJ C g N 4 2 12 I1 P1 J1 12 [(0, .ref (g.1 80)), (1, .int x), (2, .ref (g.1 110))] [.ref qx]
      refine z_astore_n (pc := 12) (lv' := [(3, .ref qx), (0, .ref (g.1 80)), (1, .int x), (2, .ref (g.1 110))]) hC dL_y_12 rfl (by decide) z_isr_r rfl ?_
      refine z_iconst (pc := 13) (v := 1) hC dL_y_13 rfl ?_
      exact z_iret (pc := 14) hC hE dL_y_14 (Or.inr ⟨0, 0, rfl, rfl, hx⟩)
    · skip
      subst e
      refine ⟨1, [_], _, _, by decide, rfl, htb.trans rfl, (fun z hz => by rcases List.mem_singleton.mp hz with rfl; exact ⟨by decide, 0, by decide, by decide, zm_2_193⟩), by decide, by decide, zm_2_194, fun qx => ?_⟩
      show zJ C g N 4 2 12 I1 P1 J1 15 [(0, .ref (g.1 80)), (1, .int x), (2, .ref (g.1 110))] [.ref qx]
      refine z_astore_n (pc := 15) (lv' := [(3, .ref qx), (0, .ref (g.1 80)), (1, .int x), (2, .ref (g.1 110))]) hC dL_y_15 rfl (by decide) z_isr_r rfl ?_
      refine z_iconst (pc := 16) (v := 2) hC dL_y_16 rfl ?_
      exact z_iret (pc := 17) hC hE dL_y_17 (Or.inr ⟨1, 1, rfl, rfl, hx⟩)
  · skip
    obtain ⟨r, hr⟩ : ∃ r, v = some (.int r) := by obtain ⟨⟨b, -, -, hv⟩, -⟩ := hq; exact ⟨_, hv⟩
    subst hr
    show zJ C g N 4 2 12 I1 P1 J1 7 [(0, .ref (g.1 80)), (1, .int x), (2, .ref (g.1 110))] [.int r, .int 0, .ref (g.1 110)]
    refine z_i2l (pc := 7) hC dL_y_7 ?_
    refine z_lsN (pc := 8) hC 0 rfl (z_lt hC (by decide)) rfl (by decide) (by decide) dL_y_8 ?_
    refine z_goto (pc := 9) (tgt := 18) hC dL_y_9 (by decide) ?_
    refine z_iconst (pc := 18) (v := 0) hC dL_y_18 rfl ?_
    exact z_iret (pc := 19) hC hE dL_y_19 (Or.inl ⟨rfl, r, J1, rfl, hq⟩)
theorem kL_width (lx : Launch) (hst : lx.stackTraces = false) (g : zG) (sa : Nat → Nat) (N : Nat) (I : Nat → Nat → Int32) (P : Nat → Nat → Option Nat) (J : Nat → Nat → Int64) {σ : zS} (hc : zCl σ I P) (x : Int32) : z_CtL lx yL_width (zTh yL_width cL_width 4 (Option.some FieldType.int) [(0, 9, 12, 13), (0, 9, 15, 15)]) ({ frames := 8, cells := 2, slots := 12, locals := 205 } : Room) g sa N I P J [.ref (g.1 80), .int x, .ref (g.1 110)] (zLV [0, 1] (zGt σ x (fun b => sWD σ b) I P J) (zXp σ I P J (fun E => zc0 σ x E ∨ zc1 σ x E))) 2 12 := by
  refine z_ofL (by decide) (Nat.le_of_ble_eq_true rfl) (lv0 := [(0, .ref (g.1 80)), (1, .int x), (2, .ref (g.1 110))]) rfl ?_
  intro C hlx hC hE hRm hX hNC htb
  have hC : zX C cL_width 4 RL (zTh yL_width cL_width 4 (Option.some FieldType.int) [(0, 9, 12, 13), (0, 9, 15, 15)]) g N := hC
  refine z_aload_n (pc := 0) hC 2 dL_width_0 rfl rfl z_isr_r ?_
  refine z_iconst (pc := 1) (v := 0) hC dL_width_1 rfl ?_
  refine z_aload_n (pc := 2) hC 0 dL_width_2 rfl rfl z_isr_r ?_
  refine z_iload_n (pc := 3) hC 1 dL_width_3 rfl rfl ?_
  refine z_callVC (pc := 4) (st := [.int 0, .ref (g.1 110)]) hC hX hNC [.int x] (kX5_width C.2.1 (by rw [hlx]; exact hst) g sa N I P J hc x) rfl (z_lt hC (by decide)) rfl zkX5_width zm_3_172 ⟨rfl, rfl⟩ rfl rfl hRm ⟨Nat.le_of_ble_eq_true rfl, Nat.le_of_ble_eq_true rfl⟩ (Nat.le_of_ble_eq_true rfl) ⟨Nat.le_of_ble_eq_true rfl, Nat.le_of_ble_eq_true rfl⟩ dL_width_4 (fun E I1 P1 J1 hx => ?_) (fun v I1 P1 J1 hq => ?_)
  · skip
    have hx0 := hx
    obtain ⟨hcE, -⟩ := hx0
    have hE2 : E = zEn 0 ∨ E = zEn 1 := by rcases hcE with h | h <;> first | exact Or.inl h.1 | exact Or.inr h.1
    rcases hE2 with e | e
    · skip
      subst e
      refine ⟨0, [], _, _, by decide, rfl, htb.trans rfl, (fun z hz => by cases hz), by decide, by decide, zm_2_193, fun qx => ?_⟩
      show zJ C g N 4 2 12 I1 P1 J1 12 [(0, .ref (g.1 80)), (1, .int x), (2, .ref (g.1 110))] [.ref qx]
      refine z_astore_n (pc := 12) (lv' := [(3, .ref qx), (0, .ref (g.1 80)), (1, .int x), (2, .ref (g.1 110))]) hC dL_width_12 rfl (by decide) z_isr_r rfl ?_
      refine z_iconst (pc := 13) (v := 1) hC dL_width_13 rfl ?_
      exact z_iret (pc := 14) hC hE dL_width_14 (Or.inr ⟨0, 0, rfl, rfl, hx⟩)
    · skip
      subst e
      refine ⟨1, [_], _, _, by decide, rfl, htb.trans rfl, (fun z hz => by rcases List.mem_singleton.mp hz with rfl; exact ⟨by decide, 0, by decide, by decide, zm_2_193⟩), by decide, by decide, zm_2_194, fun qx => ?_⟩
      show zJ C g N 4 2 12 I1 P1 J1 15 [(0, .ref (g.1 80)), (1, .int x), (2, .ref (g.1 110))] [.ref qx]
      refine z_astore_n (pc := 15) (lv' := [(3, .ref qx), (0, .ref (g.1 80)), (1, .int x), (2, .ref (g.1 110))]) hC dL_width_15 rfl (by decide) z_isr_r rfl ?_
      refine z_iconst (pc := 16) (v := 2) hC dL_width_16 rfl ?_
      exact z_iret (pc := 17) hC hE dL_width_17 (Or.inr ⟨1, 1, rfl, rfl, hx⟩)
  · skip
    obtain ⟨r, hr⟩ : ∃ r, v = some (.int r) := by obtain ⟨⟨b, -, -, hv⟩, -⟩ := hq; exact ⟨_, hv⟩
    subst hr
    show zJ C g N 4 2 12 I1 P1 J1 7 [(0, .ref (g.1 80)), (1, .int x), (2, .ref (g.1 110))] [.int r, .int 0, .ref (g.1 110)]
    refine z_i2l (pc := 7) hC dL_width_7 ?_
    refine z_lsN (pc := 8) hC 0 rfl (z_lt hC (by decide)) rfl (by decide) (by decide) dL_width_8 ?_
    refine z_goto (pc := 9) (tgt := 18) hC dL_width_9 (by decide) ?_
    refine z_iconst (pc := 18) (v := 0) hC dL_width_18 rfl ?_
    exact z_iret (pc := 19) hC hE dL_width_19 (Or.inl ⟨rfl, r, J1, rfl, hq⟩)
theorem kL_height (lx : Launch) (hst : lx.stackTraces = false) (g : zG) (sa : Nat → Nat) (N : Nat) (I : Nat → Nat → Int32) (P : Nat → Nat → Option Nat) (J : Nat → Nat → Int64) {σ : zS} (hc : zCl σ I P) (x : Int32) : z_CtL lx yL_height (zTh yL_height cL_height 4 (Option.some FieldType.int) [(0, 9, 12, 13), (0, 9, 15, 15)]) ({ frames := 8, cells := 2, slots := 12, locals := 205 } : Room) g sa N I P J [.ref (g.1 80), .int x, .ref (g.1 110)] (zLV [0, 1] (zGt σ x (fun b => sHT σ b) I P J) (zXp σ I P J (fun E => zc0 σ x E ∨ zc1 σ x E))) 2 12 := by
  refine z_ofL (by decide) (Nat.le_of_ble_eq_true rfl) (lv0 := [(0, .ref (g.1 80)), (1, .int x), (2, .ref (g.1 110))]) rfl ?_
  intro C hlx hC hE hRm hX hNC htb
  have hC : zX C cL_height 4 RL (zTh yL_height cL_height 4 (Option.some FieldType.int) [(0, 9, 12, 13), (0, 9, 15, 15)]) g N := hC
  refine z_aload_n (pc := 0) hC 2 dL_height_0 rfl rfl z_isr_r ?_
  refine z_iconst (pc := 1) (v := 0) hC dL_height_1 rfl ?_
  refine z_aload_n (pc := 2) hC 0 dL_height_2 rfl rfl z_isr_r ?_
  refine z_iload_n (pc := 3) hC 1 dL_height_3 rfl rfl ?_
  refine z_callVC (pc := 4) (st := [.int 0, .ref (g.1 110)]) hC hX hNC [.int x] (kX5_height C.2.1 (by rw [hlx]; exact hst) g sa N I P J hc x) rfl (z_lt hC (by decide)) rfl zkX5_height zm_3_179 ⟨rfl, rfl⟩ rfl rfl hRm ⟨Nat.le_of_ble_eq_true rfl, Nat.le_of_ble_eq_true rfl⟩ (Nat.le_of_ble_eq_true rfl) ⟨Nat.le_of_ble_eq_true rfl, Nat.le_of_ble_eq_true rfl⟩ dL_height_4 (fun E I1 P1 J1 hx => ?_) (fun v I1 P1 J1 hq => ?_)
  · skip
    have hx0 := hx
    obtain ⟨hcE, -⟩ := hx0
    have hE2 : E = zEn 0 ∨ E = zEn 1 := by rcases hcE with h | h <;> first | exact Or.inl h.1 | exact Or.inr h.1
    rcases hE2 with e | e
    · skip
      subst e
      refine ⟨0, [], _, _, by decide, rfl, htb.trans rfl, (fun z hz => by cases hz), by decide, by decide, zm_2_193, fun qx => ?_⟩
      show zJ C g N 4 2 12 I1 P1 J1 12 [(0, .ref (g.1 80)), (1, .int x), (2, .ref (g.1 110))] [.ref qx]
      refine z_astore_n (pc := 12) (lv' := [(3, .ref qx), (0, .ref (g.1 80)), (1, .int x), (2, .ref (g.1 110))]) hC dL_height_12 rfl (by decide) z_isr_r rfl ?_
      refine z_iconst (pc := 13) (v := 1) hC dL_height_13 rfl ?_
      exact z_iret (pc := 14) hC hE dL_height_14 (Or.inr ⟨0, 0, rfl, rfl, hx⟩)
    · skip
      subst e
      refine ⟨1, [_], _, _, by decide, rfl, htb.trans rfl, (fun z hz => by rcases List.mem_singleton.mp hz with rfl; exact ⟨by decide, 0, by decide, by decide, zm_2_193⟩), by decide, by decide, zm_2_194, fun qx => ?_⟩
      show zJ C g N 4 2 12 I1 P1 J1 15 [(0, .ref (g.1 80)), (1, .int x), (2, .ref (g.1 110))] [.ref qx]
      refine z_astore_n (pc := 15) (lv' := [(3, .ref qx), (0, .ref (g.1 80)), (1, .int x), (2, .ref (g.1 110))]) hC dL_height_15 rfl (by decide) z_isr_r rfl ?_
      refine z_iconst (pc := 16) (v := 2) hC dL_height_16 rfl ?_
      exact z_iret (pc := 17) hC hE dL_height_17 (Or.inr ⟨1, 1, rfl, rfl, hx⟩)
  · skip
    obtain ⟨r, hr⟩ : ∃ r, v = some (.int r) := by obtain ⟨⟨b, -, -, hv⟩, -⟩ := hq; exact ⟨_, hv⟩
    subst hr
    show zJ C g N 4 2 12 I1 P1 J1 7 [(0, .ref (g.1 80)), (1, .int x), (2, .ref (g.1 110))] [.int r, .int 0, .ref (g.1 110)]
    refine z_i2l (pc := 7) hC dL_height_7 ?_
    refine z_lsN (pc := 8) hC 0 rfl (z_lt hC (by decide)) rfl (by decide) (by decide) dL_height_8 ?_
    refine z_goto (pc := 9) (tgt := 18) hC dL_height_9 (by decide) ?_
    refine z_iconst (pc := 18) (v := 0) hC dL_height_18 rfl ?_
    exact z_iret (pc := 19) hC hE dL_height_19 (Or.inl ⟨rfl, r, J1, rfl, hq⟩)
theorem kL_naturalWidth (lx : Launch) (hst : lx.stackTraces = false) (g : zG) (sa : Nat → Nat) (N : Nat) (I : Nat → Nat → Int32) (P : Nat → Nat → Option Nat) (J : Nat → Nat → Int64) {σ : zS} (hc : zCl σ I P) (x : Int32) : z_CtL lx yL_naturalWidth (zTh yL_naturalWidth cL_naturalWidth 4 (Option.some FieldType.int) [(0, 9, 12, 13), (0, 9, 15, 15)]) ({ frames := 8, cells := 2, slots := 12, locals := 205 } : Room) g sa N I P J [.ref (g.1 80), .int x, .ref (g.1 110)] (zLV [0, 1] (zGt σ x (fun b => sNW σ b) I P J) (zXp σ I P J (fun E => zc0 σ x E ∨ zc1 σ x E))) 2 12 := by
  refine z_ofL (by decide) (Nat.le_of_ble_eq_true rfl) (lv0 := [(0, .ref (g.1 80)), (1, .int x), (2, .ref (g.1 110))]) rfl ?_
  intro C hlx hC hE hRm hX hNC htb
  have hC : zX C cL_naturalWidth 4 RL (zTh yL_naturalWidth cL_naturalWidth 4 (Option.some FieldType.int) [(0, 9, 12, 13), (0, 9, 15, 15)]) g N := hC
  refine z_aload_n (pc := 0) hC 2 dL_naturalWidth_0 rfl rfl z_isr_r ?_
  refine z_iconst (pc := 1) (v := 0) hC dL_naturalWidth_1 rfl ?_
  refine z_aload_n (pc := 2) hC 0 dL_naturalWidth_2 rfl rfl z_isr_r ?_
  refine z_iload_n (pc := 3) hC 1 dL_naturalWidth_3 rfl rfl ?_
  refine z_callVC (pc := 4) (st := [.int 0, .ref (g.1 110)]) hC hX hNC [.int x] (kX5_naturalWidth C.2.1 (by rw [hlx]; exact hst) g sa N I P J hc x) rfl (z_lt hC (by decide)) rfl zkX5_naturalWidth zm_3_186 ⟨rfl, rfl⟩ rfl rfl hRm ⟨Nat.le_of_ble_eq_true rfl, Nat.le_of_ble_eq_true rfl⟩ (Nat.le_of_ble_eq_true rfl) ⟨Nat.le_of_ble_eq_true rfl, Nat.le_of_ble_eq_true rfl⟩ dL_naturalWidth_4 (fun E I1 P1 J1 hx => ?_) (fun v I1 P1 J1 hq => ?_)
  · skip
    have hx0 := hx
    obtain ⟨hcE, -⟩ := hx0
    have hE2 : E = zEn 0 ∨ E = zEn 1 := by rcases hcE with h | h <;> first | exact Or.inl h.1 | exact Or.inr h.1
    rcases hE2 with e | e
    · skip
      subst e
      refine ⟨0, [], _, _, by decide, rfl, htb.trans rfl, (fun z hz => by cases hz), by decide, by decide, zm_2_193, fun qx => ?_⟩
      show zJ C g N 4 2 12 I1 P1 J1 12 [(0, .ref (g.1 80)), (1, .int x), (2, .ref (g.1 110))] [.ref qx]
      refine z_astore_n (pc := 12) (lv' := [(3, .ref qx), (0, .ref (g.1 80)), (1, .int x), (2, .ref (g.1 110))]) hC dL_naturalWidth_12 rfl (by decide) z_isr_r rfl ?_
      refine z_iconst (pc := 13) (v := 1) hC dL_naturalWidth_13 rfl ?_
      exact z_iret (pc := 14) hC hE dL_naturalWidth_14 (Or.inr ⟨0, 0, rfl, rfl, hx⟩)
    · skip
      subst e
      refine ⟨1, [_], _, _, by decide, rfl, htb.trans rfl, (fun z hz => by rcases List.mem_singleton.mp hz with rfl; exact ⟨by decide, 0, by decide, by decide, zm_2_193⟩), by decide, by decide, zm_2_194, fun qx => ?_⟩
      show zJ C g N 4 2 12 I1 P1 J1 15 [(0, .ref (g.1 80)), (1, .int x), (2, .ref (g.1 110))] [.ref qx]
      refine z_astore_n (pc := 15) (lv' := [(3, .ref qx), (0, .ref (g.1 80)), (1, .int x), (2, .ref (g.1 110))]) hC dL_naturalWidth_15 rfl (by decide) z_isr_r rfl ?_
      refine z_iconst (pc := 16) (v := 2) hC dL_naturalWidth_16 rfl ?_
      exact z_iret (pc := 17) hC hE dL_naturalWidth_17 (Or.inr ⟨1, 1, rfl, rfl, hx⟩)
  · skip
    obtain ⟨r, hr⟩ : ∃ r, v = some (.int r) := by obtain ⟨⟨b, -, -, hv⟩, -⟩ := hq; exact ⟨_, hv⟩
    subst hr
    show zJ C g N 4 2 12 I1 P1 J1 7 [(0, .ref (g.1 80)), (1, .int x), (2, .ref (g.1 110))] [.int r, .int 0, .ref (g.1 110)]
    refine z_i2l (pc := 7) hC dL_naturalWidth_7 ?_
    refine z_lsN (pc := 8) hC 0 rfl (z_lt hC (by decide)) rfl (by decide) (by decide) dL_naturalWidth_8 ?_
    refine z_goto (pc := 9) (tgt := 18) hC dL_naturalWidth_9 (by decide) ?_
    refine z_iconst (pc := 18) (v := 0) hC dL_naturalWidth_18 rfl ?_
    exact z_iret (pc := 19) hC hE dL_naturalWidth_19 (Or.inl ⟨rfl, r, J1, rfl, hq⟩)
theorem kL_naturalHeight (lx : Launch) (hst : lx.stackTraces = false) (g : zG) (sa : Nat → Nat) (N : Nat) (I : Nat → Nat → Int32) (P : Nat → Nat → Option Nat) (J : Nat → Nat → Int64) {σ : zS} (hc : zCl σ I P) (x : Int32) : z_CtL lx yL_naturalHeight (zTh yL_naturalHeight cL_naturalHeight 4 (Option.some FieldType.int) [(0, 9, 12, 13), (0, 9, 15, 15)]) ({ frames := 8, cells := 2, slots := 12, locals := 205 } : Room) g sa N I P J [.ref (g.1 80), .int x, .ref (g.1 110)] (zLV [0, 1] (zGt σ x (fun b => sNH σ b) I P J) (zXp σ I P J (fun E => zc0 σ x E ∨ zc1 σ x E))) 2 12 := by
  refine z_ofL (by decide) (Nat.le_of_ble_eq_true rfl) (lv0 := [(0, .ref (g.1 80)), (1, .int x), (2, .ref (g.1 110))]) rfl ?_
  intro C hlx hC hE hRm hX hNC htb
  have hC : zX C cL_naturalHeight 4 RL (zTh yL_naturalHeight cL_naturalHeight 4 (Option.some FieldType.int) [(0, 9, 12, 13), (0, 9, 15, 15)]) g N := hC
  refine z_aload_n (pc := 0) hC 2 dL_naturalHeight_0 rfl rfl z_isr_r ?_
  refine z_iconst (pc := 1) (v := 0) hC dL_naturalHeight_1 rfl ?_
  refine z_aload_n (pc := 2) hC 0 dL_naturalHeight_2 rfl rfl z_isr_r ?_
  refine z_iload_n (pc := 3) hC 1 dL_naturalHeight_3 rfl rfl ?_
  refine z_callVC (pc := 4) (st := [.int 0, .ref (g.1 110)]) hC hX hNC [.int x] (kX5_naturalHeight C.2.1 (by rw [hlx]; exact hst) g sa N I P J hc x) rfl (z_lt hC (by decide)) rfl zkX5_naturalHeight zm_3_193 ⟨rfl, rfl⟩ rfl rfl hRm ⟨Nat.le_of_ble_eq_true rfl, Nat.le_of_ble_eq_true rfl⟩ (Nat.le_of_ble_eq_true rfl) ⟨Nat.le_of_ble_eq_true rfl, Nat.le_of_ble_eq_true rfl⟩ dL_naturalHeight_4 (fun E I1 P1 J1 hx => ?_) (fun v I1 P1 J1 hq => ?_)
  · skip
    have hx0 := hx
    obtain ⟨hcE, -⟩ := hx0
    have hE2 : E = zEn 0 ∨ E = zEn 1 := by rcases hcE with h | h <;> first | exact Or.inl h.1 | exact Or.inr h.1
    rcases hE2 with e | e
    · skip
      subst e
      refine ⟨0, [], _, _, by decide, rfl, htb.trans rfl, (fun z hz => by cases hz), by decide, by decide, zm_2_193, fun qx => ?_⟩
      show zJ C g N 4 2 12 I1 P1 J1 12 [(0, .ref (g.1 80)), (1, .int x), (2, .ref (g.1 110))] [.ref qx]
      refine z_astore_n (pc := 12) (lv' := [(3, .ref qx), (0, .ref (g.1 80)), (1, .int x), (2, .ref (g.1 110))]) hC dL_naturalHeight_12 rfl (by decide) z_isr_r rfl ?_
      refine z_iconst (pc := 13) (v := 1) hC dL_naturalHeight_13 rfl ?_
      exact z_iret (pc := 14) hC hE dL_naturalHeight_14 (Or.inr ⟨0, 0, rfl, rfl, hx⟩)
    · skip
      subst e
      refine ⟨1, [_], _, _, by decide, rfl, htb.trans rfl, (fun z hz => by rcases List.mem_singleton.mp hz with rfl; exact ⟨by decide, 0, by decide, by decide, zm_2_193⟩), by decide, by decide, zm_2_194, fun qx => ?_⟩
      show zJ C g N 4 2 12 I1 P1 J1 15 [(0, .ref (g.1 80)), (1, .int x), (2, .ref (g.1 110))] [.ref qx]
      refine z_astore_n (pc := 15) (lv' := [(3, .ref qx), (0, .ref (g.1 80)), (1, .int x), (2, .ref (g.1 110))]) hC dL_naturalHeight_15 rfl (by decide) z_isr_r rfl ?_
      refine z_iconst (pc := 16) (v := 2) hC dL_naturalHeight_16 rfl ?_
      exact z_iret (pc := 17) hC hE dL_naturalHeight_17 (Or.inr ⟨1, 1, rfl, rfl, hx⟩)
  · skip
    obtain ⟨r, hr⟩ : ∃ r, v = some (.int r) := by obtain ⟨⟨b, -, -, hv⟩, -⟩ := hq; exact ⟨_, hv⟩
    subst hr
    show zJ C g N 4 2 12 I1 P1 J1 7 [(0, .ref (g.1 80)), (1, .int x), (2, .ref (g.1 110))] [.int r, .int 0, .ref (g.1 110)]
    refine z_i2l (pc := 7) hC dL_naturalHeight_7 ?_
    refine z_lsN (pc := 8) hC 0 rfl (z_lt hC (by decide)) rfl (by decide) (by decide) dL_naturalHeight_8 ?_
    refine z_goto (pc := 9) (tgt := 18) hC dL_naturalHeight_9 (by decide) ?_
    refine z_iconst (pc := 18) (v := 0) hC dL_naturalHeight_18 rfl ?_
    exact z_iret (pc := 19) hC hE dL_naturalHeight_19 (Or.inl ⟨rfl, r, J1, rfl, hq⟩)
theorem kL_lines (lx : Launch) (hst : lx.stackTraces = false) (g : zG) (sa : Nat → Nat) (N : Nat) (I : Nat → Nat → Int32) (P : Nat → Nat → Option Nat) (J : Nat → Nat → Int64) {σ : zS} (hc : zCl σ I P) (x : Int32) : z_CtL lx yL_lines (zTh yL_lines cL_lines 4 (Option.some FieldType.int) [(0, 9, 12, 13), (0, 9, 15, 15)]) ({ frames := 8, cells := 2, slots := 12, locals := 205 } : Room) g sa N I P J [.ref (g.1 80), .int x, .ref (g.1 110)] (zLV [0, 1] (zGt σ x (fun b => sLC σ (sNW σ) b (sWD σ b)) I P J) (zXp σ I P J (fun E => zc0 σ x E ∨ zc1 σ x E))) 2 12 := by
  refine z_ofL (by decide) (Nat.le_of_ble_eq_true rfl) (lv0 := [(0, .ref (g.1 80)), (1, .int x), (2, .ref (g.1 110))]) rfl ?_
  intro C hlx hC hE hRm hX hNC htb
  have hC : zX C cL_lines 4 RL (zTh yL_lines cL_lines 4 (Option.some FieldType.int) [(0, 9, 12, 13), (0, 9, 15, 15)]) g N := hC
  refine z_aload_n (pc := 0) hC 2 dL_lines_0 rfl rfl z_isr_r ?_
  refine z_iconst (pc := 1) (v := 0) hC dL_lines_1 rfl ?_
  refine z_aload_n (pc := 2) hC 0 dL_lines_2 rfl rfl z_isr_r ?_
  refine z_iload_n (pc := 3) hC 1 dL_lines_3 rfl rfl ?_
  refine z_callVC (pc := 4) (st := [.int 0, .ref (g.1 110)]) hC hX hNC [.int x] (kX5_lines C.2.1 (by rw [hlx]; exact hst) g sa N I P J hc x) rfl (z_lt hC (by decide)) rfl zkX5_lines zm_3_200 ⟨rfl, rfl⟩ rfl rfl hRm ⟨Nat.le_of_ble_eq_true rfl, Nat.le_of_ble_eq_true rfl⟩ (Nat.le_of_ble_eq_true rfl) ⟨Nat.le_of_ble_eq_true rfl, Nat.le_of_ble_eq_true rfl⟩ dL_lines_4 (fun E I1 P1 J1 hx => ?_) (fun v I1 P1 J1 hq => ?_)
  · skip
    have hx0 := hx
    obtain ⟨hcE, -⟩ := hx0
    have hE2 : E = zEn 0 ∨ E = zEn 1 := by rcases hcE with h | h <;> first | exact Or.inl h.1 | exact Or.inr h.1
    rcases hE2 with e | e
    · skip
      subst e
      refine ⟨0, [], _, _, by decide, rfl, htb.trans rfl, (fun z hz => by cases hz), by decide, by decide, zm_2_193, fun qx => ?_⟩
      show zJ C g N 4 2 12 I1 P1 J1 12 [(0, .ref (g.1 80)), (1, .int x), (2, .ref (g.1 110))] [.ref qx]
      refine z_astore_n (pc := 12) (lv' := [(3, .ref qx), (0, .ref (g.1 80)), (1, .int x), (2, .ref (g.1 110))]) hC dL_lines_12 rfl (by decide) z_isr_r rfl ?_
      refine z_iconst (pc := 13) (v := 1) hC dL_lines_13 rfl ?_
      exact z_iret (pc := 14) hC hE dL_lines_14 (Or.inr ⟨0, 0, rfl, rfl, hx⟩)
    · skip
      subst e
      refine ⟨1, [_], _, _, by decide, rfl, htb.trans rfl, (fun z hz => by rcases List.mem_singleton.mp hz with rfl; exact ⟨by decide, 0, by decide, by decide, zm_2_193⟩), by decide, by decide, zm_2_194, fun qx => ?_⟩
      show zJ C g N 4 2 12 I1 P1 J1 15 [(0, .ref (g.1 80)), (1, .int x), (2, .ref (g.1 110))] [.ref qx]
      refine z_astore_n (pc := 15) (lv' := [(3, .ref qx), (0, .ref (g.1 80)), (1, .int x), (2, .ref (g.1 110))]) hC dL_lines_15 rfl (by decide) z_isr_r rfl ?_
      refine z_iconst (pc := 16) (v := 2) hC dL_lines_16 rfl ?_
      exact z_iret (pc := 17) hC hE dL_lines_17 (Or.inr ⟨1, 1, rfl, rfl, hx⟩)
  · skip
    obtain ⟨r, hr⟩ : ∃ r, v = some (.int r) := by obtain ⟨⟨b, -, -, hv⟩, -⟩ := hq; exact ⟨_, hv⟩
    subst hr
    show zJ C g N 4 2 12 I1 P1 J1 7 [(0, .ref (g.1 80)), (1, .int x), (2, .ref (g.1 110))] [.int r, .int 0, .ref (g.1 110)]
    refine z_i2l (pc := 7) hC dL_lines_7 ?_
    refine z_lsN (pc := 8) hC 0 rfl (z_lt hC (by decide)) rfl (by decide) (by decide) dL_lines_8 ?_
    refine z_goto (pc := 9) (tgt := 18) hC dL_lines_9 (by decide) ?_
    refine z_iconst (pc := 18) (v := 0) hC dL_lines_18 rfl ?_
    exact z_iret (pc := 19) hC hE dL_lines_19 (Or.inl ⟨rfl, r, J1, rfl, hq⟩)
theorem kL_lineOf (lx : Launch) (hst : lx.stackTraces = false) (g : zG) (sa : Nat → Nat) (N : Nat) (I : Nat → Nat → Int32) (P : Nat → Nat → Option Nat) (J : Nat → Nat → Int64) {σ : zS} (hc : zCl σ I P) (x : Int32) : z_CtL lx yL_lineOf (zTh yL_lineOf cL_lineOf 4 (Option.some FieldType.int) [(0, 9, 12, 13), (0, 9, 15, 15)]) ({ frames := 8, cells := 2, slots := 12, locals := 205 } : Room) g sa N I P J [.ref (g.1 80), .int x, .ref (g.1 110)] (zLV [0, 1] (zGt σ x (fun b => nI (sLi σ b)) I P J) (zXp σ I P J (fun E => zc0 σ x E ∨ zc1 σ x E))) 2 12 := by
  refine z_ofL (by decide) (Nat.le_of_ble_eq_true rfl) (lv0 := [(0, .ref (g.1 80)), (1, .int x), (2, .ref (g.1 110))]) rfl ?_
  intro C hlx hC hE hRm hX hNC htb
  have hC : zX C cL_lineOf 4 RL (zTh yL_lineOf cL_lineOf 4 (Option.some FieldType.int) [(0, 9, 12, 13), (0, 9, 15, 15)]) g N := hC
  refine z_aload_n (pc := 0) hC 2 dL_lineOf_0 rfl rfl z_isr_r ?_
  refine z_iconst (pc := 1) (v := 0) hC dL_lineOf_1 rfl ?_
  refine z_aload_n (pc := 2) hC 0 dL_lineOf_2 rfl rfl z_isr_r ?_
  refine z_iload_n (pc := 3) hC 1 dL_lineOf_3 rfl rfl ?_
  refine z_callVC (pc := 4) (st := [.int 0, .ref (g.1 110)]) hC hX hNC [.int x] (kX5_lineOf C.2.1 (by rw [hlx]; exact hst) g sa N I P J hc x) rfl (z_lt hC (by decide)) rfl zkX5_lineOf zm_3_207 ⟨rfl, rfl⟩ rfl rfl hRm ⟨Nat.le_of_ble_eq_true rfl, Nat.le_of_ble_eq_true rfl⟩ (Nat.le_of_ble_eq_true rfl) ⟨Nat.le_of_ble_eq_true rfl, Nat.le_of_ble_eq_true rfl⟩ dL_lineOf_4 (fun E I1 P1 J1 hx => ?_) (fun v I1 P1 J1 hq => ?_)
  · skip
    have hx0 := hx
    obtain ⟨hcE, -⟩ := hx0
    have hE2 : E = zEn 0 ∨ E = zEn 1 := by rcases hcE with h | h <;> first | exact Or.inl h.1 | exact Or.inr h.1
    rcases hE2 with e | e
    · skip
      subst e
      refine ⟨0, [], _, _, by decide, rfl, htb.trans rfl, (fun z hz => by cases hz), by decide, by decide, zm_2_193, fun qx => ?_⟩
      show zJ C g N 4 2 12 I1 P1 J1 12 [(0, .ref (g.1 80)), (1, .int x), (2, .ref (g.1 110))] [.ref qx]
      refine z_astore_n (pc := 12) (lv' := [(3, .ref qx), (0, .ref (g.1 80)), (1, .int x), (2, .ref (g.1 110))]) hC dL_lineOf_12 rfl (by decide) z_isr_r rfl ?_
      refine z_iconst (pc := 13) (v := 1) hC dL_lineOf_13 rfl ?_
      exact z_iret (pc := 14) hC hE dL_lineOf_14 (Or.inr ⟨0, 0, rfl, rfl, hx⟩)
    · skip
      subst e
      refine ⟨1, [_], _, _, by decide, rfl, htb.trans rfl, (fun z hz => by rcases List.mem_singleton.mp hz with rfl; exact ⟨by decide, 0, by decide, by decide, zm_2_193⟩), by decide, by decide, zm_2_194, fun qx => ?_⟩
      show zJ C g N 4 2 12 I1 P1 J1 15 [(0, .ref (g.1 80)), (1, .int x), (2, .ref (g.1 110))] [.ref qx]
      refine z_astore_n (pc := 15) (lv' := [(3, .ref qx), (0, .ref (g.1 80)), (1, .int x), (2, .ref (g.1 110))]) hC dL_lineOf_15 rfl (by decide) z_isr_r rfl ?_
      refine z_iconst (pc := 16) (v := 2) hC dL_lineOf_16 rfl ?_
      exact z_iret (pc := 17) hC hE dL_lineOf_17 (Or.inr ⟨1, 1, rfl, rfl, hx⟩)
  · skip
    obtain ⟨r, hr⟩ : ∃ r, v = some (.int r) := by obtain ⟨⟨b, -, -, hv⟩, -⟩ := hq; exact ⟨_, hv⟩
    subst hr
    show zJ C g N 4 2 12 I1 P1 J1 7 [(0, .ref (g.1 80)), (1, .int x), (2, .ref (g.1 110))] [.int r, .int 0, .ref (g.1 110)]
    refine z_i2l (pc := 7) hC dL_lineOf_7 ?_
    refine z_lsN (pc := 8) hC 0 rfl (z_lt hC (by decide)) rfl (by decide) (by decide) dL_lineOf_8 ?_
    refine z_goto (pc := 9) (tgt := 18) hC dL_lineOf_9 (by decide) ?_
    refine z_iconst (pc := 18) (v := 0) hC dL_lineOf_18 rfl ?_
    exact z_iret (pc := 19) hC hE dL_lineOf_19 (Or.inl ⟨rfl, r, J1, rfl, hq⟩)
theorem kL_overflow (lx : Launch) (hst : lx.stackTraces = false) (g : zG) (sa : Nat → Nat) (N : Nat) (I : Nat → Nat → Int32) (P : Nat → Nat → Option Nat) (J : Nat → Nat → Int64) {σ : zS} (hc : zCl σ I P) (x : Int32) : z_CtL lx yL_overflow (zTh yL_overflow cL_overflow 4 (Option.some FieldType.int) [(0, 9, 12, 13), (0, 9, 15, 15)]) ({ frames := 8, cells := 2, slots := 12, locals := 206 } : Room) g sa N I P J [.ref (g.1 80), .int x, .ref (g.1 110)] (zLV [0, 1] (zGt σ x (sOvf σ) I P J) (zXp σ I P J (fun E => zc0 σ x E ∨ zc1 σ x E))) 2 12 := by
  refine z_ofL (by decide) (Nat.le_of_ble_eq_true rfl) (lv0 := [(0, .ref (g.1 80)), (1, .int x), (2, .ref (g.1 110))]) rfl ?_
  intro C hlx hC hE hRm hX hNC htb
  have hC : zX C cL_overflow 4 RL (zTh yL_overflow cL_overflow 4 (Option.some FieldType.int) [(0, 9, 12, 13), (0, 9, 15, 15)]) g N := hC
  refine z_aload_n (pc := 0) hC 2 dL_overflow_0 rfl rfl z_isr_r ?_
  refine z_iconst (pc := 1) (v := 0) hC dL_overflow_1 rfl ?_
  refine z_aload_n (pc := 2) hC 0 dL_overflow_2 rfl rfl z_isr_r ?_
  refine z_iload_n (pc := 3) hC 1 dL_overflow_3 rfl rfl ?_
  refine z_callVC (pc := 4) (st := [.int 0, .ref (g.1 110)]) hC hX hNC [.int x] (kX5_overflow C.2.1 (by rw [hlx]; exact hst) g sa N I P J hc x) rfl (z_lt hC (by decide)) rfl zkX5_overflow zm_3_214 ⟨rfl, rfl⟩ rfl rfl hRm ⟨Nat.le_of_ble_eq_true rfl, Nat.le_of_ble_eq_true rfl⟩ (Nat.le_of_ble_eq_true rfl) ⟨Nat.le_of_ble_eq_true rfl, Nat.le_of_ble_eq_true rfl⟩ dL_overflow_4 (fun E I1 P1 J1 hx => ?_) (fun v I1 P1 J1 hq => ?_)
  · skip
    have hx0 := hx
    obtain ⟨hcE, -⟩ := hx0
    have hE2 : E = zEn 0 ∨ E = zEn 1 := by rcases hcE with h | h <;> first | exact Or.inl h.1 | exact Or.inr h.1
    rcases hE2 with e | e
    · skip
      subst e
      refine ⟨0, [], _, _, by decide, rfl, htb.trans rfl, (fun z hz => by cases hz), by decide, by decide, zm_2_193, fun qx => ?_⟩
      show zJ C g N 4 2 12 I1 P1 J1 12 [(0, .ref (g.1 80)), (1, .int x), (2, .ref (g.1 110))] [.ref qx]
      refine z_astore_n (pc := 12) (lv' := [(3, .ref qx), (0, .ref (g.1 80)), (1, .int x), (2, .ref (g.1 110))]) hC dL_overflow_12 rfl (by decide) z_isr_r rfl ?_
      refine z_iconst (pc := 13) (v := 1) hC dL_overflow_13 rfl ?_
      exact z_iret (pc := 14) hC hE dL_overflow_14 (Or.inr ⟨0, 0, rfl, rfl, hx⟩)
    · skip
      subst e
      refine ⟨1, [_], _, _, by decide, rfl, htb.trans rfl, (fun z hz => by rcases List.mem_singleton.mp hz with rfl; exact ⟨by decide, 0, by decide, by decide, zm_2_193⟩), by decide, by decide, zm_2_194, fun qx => ?_⟩
      show zJ C g N 4 2 12 I1 P1 J1 15 [(0, .ref (g.1 80)), (1, .int x), (2, .ref (g.1 110))] [.ref qx]
      refine z_astore_n (pc := 15) (lv' := [(3, .ref qx), (0, .ref (g.1 80)), (1, .int x), (2, .ref (g.1 110))]) hC dL_overflow_15 rfl (by decide) z_isr_r rfl ?_
      refine z_iconst (pc := 16) (v := 2) hC dL_overflow_16 rfl ?_
      exact z_iret (pc := 17) hC hE dL_overflow_17 (Or.inr ⟨1, 1, rfl, rfl, hx⟩)
  · skip
    obtain ⟨r, hr⟩ : ∃ r, v = some (.int r) := by obtain ⟨⟨b, -, -, hv⟩, -⟩ := hq; exact ⟨_, hv⟩
    subst hr
    show zJ C g N 4 2 12 I1 P1 J1 7 [(0, .ref (g.1 80)), (1, .int x), (2, .ref (g.1 110))] [.int r, .int 0, .ref (g.1 110)]
    refine z_i2l (pc := 7) hC dL_overflow_7 ?_
    refine z_lsN (pc := 8) hC 0 rfl (z_lt hC (by decide)) rfl (by decide) (by decide) dL_overflow_8 ?_
    refine z_goto (pc := 9) (tgt := 18) hC dL_overflow_9 (by decide) ?_
    refine z_iconst (pc := 18) (v := 0) hC dL_overflow_18 rfl ?_
    exact z_iret (pc := 19) hC hE dL_overflow_19 (Or.inl ⟨rfl, r, J1, rfl, hq⟩)
theorem kL_widthFor (lx : Launch) (hst : lx.stackTraces = false) (g : zG) (sa : Nat → Nat) (N : Nat) (I : Nat → Nat → Int32) (P : Nat → Nat → Option Nat) (J : Nat → Nat → Int64) {σ : zS} (hc : zCl σ I P) (x n : Int32) : z_CtL lx yL_widthFor (zTh yL_widthFor cL_widthFor 5 (Option.some FieldType.int) [(0, 10, 13, 13), (0, 10, 17, 20), (0, 10, 21, 15)]) ({ frames := 8, cells := 3, slots := 18, locals := 207 } : Room) g sa N I P J [.ref (g.1 80), .int x, .int n, .ref (g.1 110)] (zLV [0, 2, 1] (fun v I' P' J' => (∃ b, x = nI b ∧ sSh σ b = true ∧ (0 ≤ n ∧ n ≤ 100) ∧ v = some (.int (sWf σ b n))) ∧ zCl σ I' P' ∧ zKp I P J I' P' J') (zXp σ I P J (fun E => zc0 σ x E ∨ ((E = zEn 2 ∧ sBx σ x ∧ ¬ (0 ≤ n ∧ n ≤ 100)) ∨ (zc1 σ x E ∧ 0 ≤ n ∧ n ≤ 100))))) 3 18 := by
  refine z_ofL (by decide) (Nat.le_of_ble_eq_true rfl) (lv0 := [(0, .ref (g.1 80)), (1, .int x), (2, .int n), (3, .ref (g.1 110))]) rfl ?_
  intro C hlx hC hE hRm hX hNC htb
  have hC : zX C cL_widthFor 5 RL (zTh yL_widthFor cL_widthFor 5 (Option.some FieldType.int) [(0, 10, 13, 13), (0, 10, 17, 20), (0, 10, 21, 15)]) g N := hC
  refine z_aload_n (pc := 0) hC 3 dL_widthFor_0 rfl rfl z_isr_r ?_
  refine z_iconst (pc := 1) (v := 0) hC dL_widthFor_1 rfl ?_
  refine z_aload_n (pc := 2) hC 0 dL_widthFor_2 rfl rfl z_isr_r ?_
  refine z_iload_n (pc := 3) hC 1 dL_widthFor_3 rfl rfl ?_
  refine z_iload_n (pc := 4) hC 2 dL_widthFor_4 rfl rfl ?_
  refine z_callVC (pc := 5) (st := [.int 0, .ref (g.1 110)]) hC hX hNC [.int x, .int n] (kX5_widthFor C.2.1 (by rw [hlx]; exact hst) g sa N I P J hc x n) rfl (z_lt hC (by decide)) rfl zkX5_widthFor zm_3_227 ⟨rfl, rfl⟩ rfl rfl hRm ⟨Nat.le_of_ble_eq_true rfl, Nat.le_of_ble_eq_true rfl⟩ (Nat.le_of_ble_eq_true rfl) ⟨Nat.le_of_ble_eq_true rfl, Nat.le_of_ble_eq_true rfl⟩ dL_widthFor_5 (fun E I1 P1 J1 hx => ?_) (fun v I1 P1 J1 hq => ?_)
  · skip
    have hx0 := hx
    obtain ⟨hcE, -⟩ := hx0
    have hE2 : E = zEn 0 ∨ E = zEn 2 ∨ E = zEn 1 := by rcases hcE with h | h | h <;> first | exact Or.inl h.1 | exact Or.inr (Or.inl h.1) | exact Or.inr (Or.inr h.1.1)
    rcases hE2 with e | e | e
    · skip
      subst e
      refine ⟨0, [], _, _, by decide, rfl, htb.trans rfl, (fun z hz => by cases hz), by decide, by decide, zm_2_193, fun qx => ?_⟩
      show zJ C g N 5 3 18 I1 P1 J1 13 [(0, .ref (g.1 80)), (1, .int x), (2, .int n), (3, .ref (g.1 110))] [.ref qx]
      refine z_astore (pc := 13) (lv' := [(4, .ref qx), (0, .ref (g.1 80)), (1, .int x), (2, .int n), (3, .ref (g.1 110))]) hC dL_widthFor_13 (by decide) z_isr_r rfl ?_
      refine z_iconst (pc := 15) (v := 1) hC dL_widthFor_15 rfl ?_
      exact z_iret (pc := 16) hC hE dL_widthFor_16 (Or.inr ⟨0, 0, rfl, rfl, hx⟩)
    · skip
      subst e
      refine ⟨2, [_], _, _, by decide, rfl, htb.trans rfl, (fun z hz => by rcases List.mem_singleton.mp hz with rfl; exact ⟨by decide, 0, by decide, by decide, zm_2_193⟩), by decide, by decide, zm_3_59, fun qx => ?_⟩
      show zJ C g N 5 3 18 I1 P1 J1 17 [(0, .ref (g.1 80)), (1, .int x), (2, .int n), (3, .ref (g.1 110))] [.ref qx]
      refine z_astore (pc := 17) (lv' := [(4, .ref qx), (0, .ref (g.1 80)), (1, .int x), (2, .int n), (3, .ref (g.1 110))]) hC dL_widthFor_17 (by decide) z_isr_r rfl ?_
      refine z_iconst (pc := 19) (v := 2) hC dL_widthFor_19 rfl ?_
      exact z_iret (pc := 20) hC hE dL_widthFor_20 (Or.inr ⟨1, 2, rfl, rfl, hx⟩)
    · skip
      subst e
      refine ⟨1, [_, _], _, _, by decide, rfl, htb.trans rfl, (fun z hz => by rcases List.mem_cons.mp hz with rfl | hz; exact ⟨by decide, 0, by decide, by decide, zm_2_193⟩; rcases List.mem_singleton.mp hz with rfl; exact ⟨by decide, 2, by decide, by decide, zm_3_59⟩), by decide, by decide, zm_2_194, fun qx => ?_⟩
      show zJ C g N 5 3 18 I1 P1 J1 21 [(0, .ref (g.1 80)), (1, .int x), (2, .int n), (3, .ref (g.1 110))] [.ref qx]
      refine z_astore (pc := 21) (lv' := [(4, .ref qx), (0, .ref (g.1 80)), (1, .int x), (2, .int n), (3, .ref (g.1 110))]) hC dL_widthFor_21 (by decide) z_isr_r rfl ?_
      refine z_iconst (pc := 23) (v := 3) hC dL_widthFor_23 rfl ?_
      exact z_iret (pc := 24) hC hE dL_widthFor_24 (Or.inr ⟨2, 1, rfl, rfl, hx⟩)
  · skip
    obtain ⟨r, hr⟩ : ∃ r, v = some (.int r) := by obtain ⟨⟨b, -, -, -, hv⟩, -⟩ := hq; exact ⟨_, hv⟩
    subst hr
    show zJ C g N 5 3 18 I1 P1 J1 8 [(0, .ref (g.1 80)), (1, .int x), (2, .int n), (3, .ref (g.1 110))] [.int r, .int 0, .ref (g.1 110)]
    refine z_i2l (pc := 8) hC dL_widthFor_8 ?_
    refine z_lsN (pc := 9) hC 0 rfl (z_lt hC (by decide)) rfl (by decide) (by decide) dL_widthFor_9 ?_
    refine z_goto (pc := 10) (tgt := 25) hC dL_widthFor_10 (by decide) ?_
    refine z_iconst (pc := 25) (v := 0) hC dL_widthFor_25 rfl ?_
    exact z_iret (pc := 26) hC hE dL_widthFor_26 (Or.inl ⟨rfl, r, J1, rfl, hq⟩)
theorem kL_restore (lx : Launch) (hst : lx.stackTraces = false) (g : zG) (sa : Nat → Nat) (N : Nat) (I : Nat → Nat → Int32) (P : Nat → Nat → Option Nat) (J : Nat → Nat → Int64) {σ : zS} (hc : zCl σ I P) (τ : Nat → zS) (hsl : ∀ t s, t < 2 → P 85 t = some s → zsn s N ∧ zSn (τ t) I s) (x : Int32) : z_CtL lx yL_restore (zTh yL_restore cL_restore 3 (Option.some FieldType.int) [(0, 5, 8, 20), (0, 5, 11, 15)]) ({ frames := 7, cells := 1, slots := 6, locals := 165 } : Room) g sa N I P J [.ref (g.1 80), .int x] (zLN [2, 1] (fun v I' P' J' => (∃ t s, x = nI t ∧ t < 2 ∧ P 85 t = some s ∧ v = none ∧ zCl (τ t) I' P') ∧ zKp I P J I' P' J') (zXp σ I P J (fun E => zc2 x E ∨ (E = zEn 1 ∧ ∃ t, x = nI t ∧ t < 2 ∧ P 85 t = none)))) 1 6 := by
  refine z_ofL (by decide) (Nat.le_of_ble_eq_true rfl) (lv0 := [(0, .ref (g.1 80)), (1, .int x)]) rfl ?_
  intro C hlx hC hE hRm hX hNC htb
  have hC : zX C cL_restore 3 RL (zTh yL_restore cL_restore 3 (Option.some FieldType.int) [(0, 5, 8, 20), (0, 5, 11, 15)]) g N := hC
  refine z_aload_n (pc := 0) hC 0 dL_restore_0 rfl rfl z_isr_r ?_
  refine z_iload_n (pc := 1) hC 1 dL_restore_1 rfl rfl ?_
  refine z_callVC (pc := 2) (st := []) hC hX hNC [.int x] (kX5_restore C.2.1 (by rw [hlx]; exact hst) g sa N I P J hc τ hsl x) rfl (z_lt hC (by decide)) rfl zkX5_restore zm_4_51 ⟨rfl, rfl⟩ rfl rfl hRm ⟨Nat.le_of_ble_eq_true rfl, Nat.le_of_ble_eq_true rfl⟩ (Nat.le_of_ble_eq_true rfl) ⟨Nat.le_of_ble_eq_true rfl, Nat.le_of_ble_eq_true rfl⟩ dL_restore_2 (fun E I1 P1 J1 hx => ?_) (fun v I1 P1 J1 hq => ?_)
  · skip
    have hx0 := hx
    obtain ⟨hcE, -⟩ := hx0
    have hE2 : E = zEn 2 ∨ E = zEn 1 := by rcases hcE with h | h <;> first | exact Or.inl h.1 | exact Or.inr h.1
    rcases hE2 with e | e
    · skip
      subst e
      refine ⟨2, [], _, _, by decide, rfl, htb.trans rfl, (fun z hz => by cases hz), by decide, by decide, zm_3_59, fun qx => ?_⟩
      show zJ C g N 3 1 6 I1 P1 J1 8 [(0, .ref (g.1 80)), (1, .int x)] [.ref qx]
      refine z_astore_n (pc := 8) (lv' := [(2, .ref qx), (0, .ref (g.1 80)), (1, .int x)]) hC dL_restore_8 rfl (by decide) z_isr_r rfl ?_
      refine z_iconst (pc := 9) (v := 1) hC dL_restore_9 rfl ?_
      exact z_iret (pc := 10) hC hE dL_restore_10 (Or.inr ⟨0, 2, rfl, rfl, hx⟩)
    · skip
      subst e
      refine ⟨1, [_], _, _, by decide, rfl, htb.trans rfl, (fun z hz => by rcases List.mem_singleton.mp hz with rfl; exact ⟨by decide, 2, by decide, by decide, zm_3_59⟩), by decide, by decide, zm_2_194, fun qx => ?_⟩
      show zJ C g N 3 1 6 I1 P1 J1 11 [(0, .ref (g.1 80)), (1, .int x)] [.ref qx]
      refine z_astore_n (pc := 11) (lv' := [(2, .ref qx), (0, .ref (g.1 80)), (1, .int x)]) hC dL_restore_11 rfl (by decide) z_isr_r rfl ?_
      refine z_iconst (pc := 12) (v := 2) hC dL_restore_12 rfl ?_
      exact z_iret (pc := 13) hC hE dL_restore_13 (Or.inr ⟨1, 1, rfl, rfl, hx⟩)
  · skip
    have hv0 : v = none := by obtain ⟨⟨t, s, -, -, -, hv, -⟩, -⟩ := hq; exact hv
    subst hv0
    show zJ C g N 3 1 6 I1 P1 J1 5 [(0, .ref (g.1 80)), (1, .int x)] []
    refine z_goto (pc := 5) (tgt := 14) hC dL_restore_5 (by decide) ?_
    refine z_iconst (pc := 14) (v := 0) hC dL_restore_14 rfl ?_
    exact z_iret (pc := 15) hC hE dL_restore_15 (Or.inl ⟨rfl, hq⟩)
theorem kL_save (lx : Launch) (hst : lx.stackTraces = false) (g : zG) (sa : Nat → Nat) (N : Nat) (I : Nat → Nat → Int32) (P : Nat → Nat → Option Nat) (J : Nat → Nat → Int64) {σ : zS} (hc : zCl σ I P) (hNf : ∃ c, N = 111 + 44 * c) (hsl : ∀ t s, t < 2 → P 85 t = some s → zsn s N) (x : Int32) : z_CtLG lx yL_save (zTh yL_save cL_save 3 (Option.some FieldType.int) [(0, 5, 8, 20)]) ({ frames := 7, cells := 44, slots := 926, locals := 165 } : Room) g sa N I P J [.ref (g.1 80), .int x] (zLG g N [2] (zSvP σ g N I P J x) (zXp σ I P J (fun E => zc2 x E))) 44 926 := by
  refine z_ofLG (by decide) (Nat.le_of_ble_eq_true rfl) (lv0 := [(0, .ref (g.1 80)), (1, .int x)]) rfl ?_
  intro C hlx hC hE hRm hX hAO hNC htb
  have hC : zX C cL_save 3 RL (zTh yL_save cL_save 3 (Option.some FieldType.int) [(0, 5, 8, 20)]) g N := hC
  refine z_aload_n (pc := 0) hC 0 dL_save_0 rfl rfl z_isr_r ?_
  refine z_iload_n (pc := 1) hC 1 dL_save_1 rfl rfl ?_
  refine z_callVCG (pc := 2) (st := []) hC hX hAO hNC [.int x] (kX5_save C.2.1 (by rw [hlx]; exact hst) g sa N I P J hc hNf hsl x) rfl (z_lt hC (by decide)) rfl zkX5_save zm_4_6 ⟨rfl, rfl⟩ rfl rfl hRm ⟨Nat.le_of_ble_eq_true rfl, Nat.le_of_ble_eq_true rfl⟩ (Nat.le_of_ble_eq_true rfl) ⟨Nat.le_of_ble_eq_true rfl, Nat.le_of_ble_eq_true rfl⟩ dL_save_2 (fun E I1 P1 J1 hx => ?_) (fun f N1 v I1 P1 J1 hgd hq => ?_)
  · skip
    have hx0 := hx
    obtain ⟨hcE, -⟩ := hx0
    have hE2 : E = zEn 2 := by exact hcE.1
    have e := hE2
    · skip
      subst e
      refine ⟨2, [], _, _, by decide, rfl, htb.trans rfl, (fun z hz => by cases hz), by decide, by decide, zm_3_59, fun qx => ?_⟩
      show zJ C g N 3 44 926 I1 P1 J1 8 [(0, .ref (g.1 80)), (1, .int x)] [.ref qx]
      refine z_astore_n (pc := 8) (lv' := [(2, .ref qx), (0, .ref (g.1 80)), (1, .int x)]) hC dL_save_8 rfl (by decide) z_isr_r rfl ?_
      refine z_iconst (pc := 9) (v := 1) hC dL_save_9 rfl ?_
      exact z_iretL (pc := 10) (f := g.1) hC hE dL_save_10 (Or.inr ⟨rfl, rfl, 0, 2, rfl, rfl, hx⟩)
  · skip
    have hv0 : v = none := hq.1
    subst hv0
    have hC1 : zX C cL_save 3 RL (zTh yL_save cL_save 3 (Option.some FieldType.int) [(0, 5, 8, 20)]) (f, g.2) N1 := ⟨hC.1, hC.2.1, hC.2.2.1, hC.2.2.2.1, hC.2.2.2.2.1, hC.2.2.2.2.2.1, hgd⟩
    refine z_goto (pc := 5) (tgt := 11) hC1 dL_save_5 (by decide) ?_
    refine z_iconst (pc := 11) (v := 0) hC1 dL_save_11 rfl ?_
    exact z_iretL (pc := 12) (f := f) hC1 hE dL_save_12 (Or.inl ⟨rfl, hq⟩)
end ZHL
