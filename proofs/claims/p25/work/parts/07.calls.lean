section ZC
/-- the words of the whole law serve every method -/
abbrev zT (y : MethodName) (cc : ByteArray) (maxL : Nat) (ret : Option FieldType) : List Cond := Cond.code y cc maxL ret :: zU
theorem z_gw {w : Cond} (h : w ∈ zU) : (w.onTables && w.keeps) = true ∨ ∃ ty, w = .arrayClass ty := good_of_word (zin_g h)
theorem z_goodL {big : List Cond} {L : List Cond} (hb : ∀ w ∈ zU, w ∈ big) (h : ∀ w ∈ L, w ∈ zU) : GoodIn big L := fun w hw => ⟨hb w (h w hw), z_gw (h w hw)⟩
/-- what a call needs to know of its callee -/
def z_pkV (y : MethodName) (cc : ByteArray) (maxL : Nat) (ret : Option FieldType) (Cn : String) (n : Nat) : Prop := Cond.instanceMethod y ∈ zU ∧ Cond.selects Cn y y ∈ zU ∧ Cond.initialized Cn ∈ zU ∧ Cond.code y cc maxL ret ∈ zU ∧ (y.cls = Cn ∧ y.cls ≠ "java/lang/invoke/MethodHandle" ∧ y.cls ≠ "java/lang/invoke/VarHandle" ∧ (parseMethodDescriptor y.desc).map (fun d => d.parameters.length) = some n)
def z_pkS (y : MethodName) (cc : ByteArray) (maxL : Nat) (ret : Option FieldType) (n : Nat) : Prop := Cond.static y ∈ zU ∧ Cond.initialized y.cls ∈ zU ∧ Cond.code y cc maxL ret ∈ zU ∧ (y.cls ≠ "java/lang/invoke/MethodHandle" ∧ y.cls ≠ "java/lang/invoke/VarHandle" ∧ (parseMethodDescriptor y.desc).map (fun d => d.parameters.length) = some n)
theorem z_goodV {big : List Cond} {own Cn : String} {index : Nat} {y : MethodName} {cc : ByteArray} {maxL n : Nat} {ret : Option FieldType} (hb : ∀ w ∈ zU, w ∈ big) (hl : Cond.methodLink own index y ∈ zU) (hp : z_pkV y cc maxL ret Cn n) : GoodIn big (wsV own index Cn y (zT y cc maxL ret)) := by
  refine z_goodL hb fun w hw => ?_
  unfold wsV zT at hw
  simp only [List.cons_append, List.nil_append, List.mem_cons] at hw
  rcases hw with rfl | rfl | rfl | rfl | rfl | hw
  · exact hl
  · exact hp.1
  · exact hp.2.1
  · exact hp.2.2.1
  · exact hp.2.2.2.1
  · exact hw
theorem z_goodS {big : List Cond} {own : String} {index : Nat} {y : MethodName} {cc : ByteArray} {maxL n : Nat} {ret : Option FieldType} (hb : ∀ w ∈ zU, w ∈ big) (hl : Cond.methodLink own index y ∈ zU) (hp : z_pkS y cc maxL ret n) : GoodIn big (va_wsS own index y (zT y cc maxL ret)) := by
  refine z_goodL hb fun w hw => ?_
  unfold va_wsS zT at hw
  simp only [List.cons_append, List.nil_append, List.mem_cons] at hw
  rcases hw with rfl | rfl | rfl | rfl | hw
  · exact hl
  · exact hp.1
  · exact hp.2.1
  · exact hp.2.2.1
  · exact hw
variable {p : Program} {l : Launch} {e : Env} {R : Room} {s : State} {m : MethodId} {args : Array Value} {below : List Frame} {meth : Method} {c : Code} {H : Heap} {locs : List Loc} {cells slots : Nat} {Q : State → Prop}
theorem z_callRun {g : zG} {N : Nat} {post : Option Value → (Nat → Nat → Int32) → (Nat → Nat → Option Nat) → (Nat → Nat → Int64) → Prop} {pc mc ms : Nat} {ls : Array Slot} {st0 rest : List Value} {a : Array Value} (hr : va_Run p l e R s m args below meth c H locs cells slots mc ms (F0 m pc ls st0) rest (z_Q g N post a) (z_A g)) (hS : va_S (z_A g) s.heap H locs)
    (kk : ∀ (v : Option Value) (I : Nat → Nat → Int32) (P : Nat → Nat → Option Nat) (J : Nat → Nat → Int64) (H1 : Heap) (locs1 : List Loc), post v I P J → va_P g.2.1 zCls (z_wl g N I P J) H1 → va_S (z_A g) s.heap H1 locs1 → W p l e R s m args below meth c H1 locs1 (cells + mc) (slots + ms) Q (F0 m (pc + 3) ls (v.toList ++ rest))) : W p l e R s m args below meth c H locs cells slots Q (F0 m pc ls st0) := by
  intro T hT X
  obtain ⟨v, st₀, t, T', L, h0, X', hL, e1, e2, ⟨⟨v', I, P, J, hv, hp, hb⟩, hz, hk⟩, st⟩ := hr T hT X
  cases hv
  rw [h0] at hz hk
  obtain ⟨t2, a1, b1⟩ := kk v I P J T'.heap (locs ++ L) hp (by rw [e1]; exact hb)
    ⟨Nat.le_trans hS.1 (by rw [e1]; exact hz), fun q h1 h2 => by rw [e1, hk q (Nat.lt_of_lt_of_le h1 hS.1) h2]; exact hS.2.1 q h1 h2, fun q hq => by
      rcases List.mem_append.mp hq with h | h
      · exact hS.2.2 q h
      · exact hL q h⟩ T' rfl X'
  exact ⟨t2, st t2 a1, b1⟩
variable {C : zC} {g : zG} {N nL : Nat} {I : Nat → Nat → Int32} {P : Nat → Nat → Option Nat} {J : Nat → Nat → Int64} {pc : Nat} {lv : List (Nat × Value)} {st : List Value} {cc : ByteArray} {own : String} {w0 : Cond}
/-- a virtual call of an object with an id -/
theorem z_callV (hC : zX C cc nL own (w0 :: zU) g N) {y : MethodName} {bytes : ByteArray} {maxL n index : Nat} {ret : Option FieldType} {Cn : String} {Tn : u_T} {NN ci id mc ms : Nat} {rm R0 : Room} {post : Option Value → (Nat → Nat → Int32) → (Nat → Nat → Option Nat) → (Nat → Nat → Int64) → Prop} {stk : List Value} (As : List Value)
    (hM : z_Ct C.2.1 y (zT y bytes maxL ret) rm g N I P J (.ref (g.1 id) :: As) post mc ms) (hsh : z_sh id = (false, ci, 0)) (hid : id < N) (hc : zCls[ci]? = some (Cn, Tn, NN)) (hp : z_pkV y bytes maxL ret Cn n) (hl : Cond.methodLink own index y ∈ zU)
    (hrm : rm.cells = mc ∧ rm.slots = ms) (hn : As.length = n) (hst : stk = As.reverse ++ .ref (g.1 id) :: st) (hRm : C.2.2.2.1 = R0) (hR : rm.frames + 1 ≤ R0.frames ∧ 8 + (maxL + 11) + rm.locals ≤ R0.locals) (hW : (st.map fun v => v.category).sum ≤ 8) (hf : cells + mc ≤ R0.cells ∧ slots + ms ≤ R0.slots) (hdg : decode cc pc = .ok (.invokevirtual index, 3))
    (kk : ∀ v I' P' J', post v I' P' J' → zJ C g N nL (cells + mc) (slots + ms) I' P' J' (pc + 3) lv (v.toList ++ st)) : zJ C g N nL cells slots I P J pc lv stk := by
  intro H locs ls hP hS hl2
  have hK := hC.2.2.2.2.2.1
  subst hst
  refine z_callRun (va_runV (b := g.1 id) (As := As) (rest := st) ⟨hC.1, hC.2.1, hC.2.2.1, hC.2.2.2.1, hC.2.2.2.2.1⟩ hM (cwV n hC.2.2.2.2.1 (z_goodV (fun w h => List.mem_cons_of_mem _ h) hl hp) rfl hrm.1 hrm.2 hp.2.2.2.2 (by rw [hRm]; exact hR)) ⟨fun a U f mk q => ⟨q.1, q.2.calling f mk a⟩, va_recv hK.1 hP hc (q0 := id) (by rw [z_wl_get hid, z_cn_ob hsh]), fun U hU hWm => ⟨rfl, by rw [hU]; exact hP, hK.at hWm hU hS, hC.2.2.2.2.2.2⟩⟩ rfl hn hl2.1 rfl (by show 2 * 0 + _ ≤ 8; omega) hdg (by rw [hRm]; exact hf)) hS ?_
  intro v I' P' J' H1 locs1 hpost hP1 hS1
  exact kk v I' P' J' hpost H1 locs1 ls hP1 hS1 hl2
theorem z_callS (hC : zX C cc nL own (w0 :: zU) g N) {y : MethodName} {bytes : ByteArray} {maxL n index mc ms : Nat} {ret : Option FieldType} {rm R0 : Room} {post : Option Value → (Nat → Nat → Int32) → (Nat → Nat → Option Nat) → (Nat → Nat → Int64) → Prop} {stk : List Value} (As : List Value)
    (hM : z_Ct C.2.1 y (zT y bytes maxL ret) rm g N I P J As post mc ms) (hp : z_pkS y bytes maxL ret n) (hl : Cond.methodLink own index y ∈ zU)
    (hrm : rm.cells = mc ∧ rm.slots = ms) (hn : As.length = n) (hst : stk = As.reverse ++ st) (hRm : C.2.2.2.1 = R0) (hR : rm.frames + 1 ≤ R0.frames ∧ 8 + (maxL + 11) + rm.locals ≤ R0.locals) (hW : (st.map fun v => v.category).sum ≤ 8) (hf : cells + mc ≤ R0.cells ∧ slots + ms ≤ R0.slots) (hdg : decode cc pc = .ok (.invokestatic index, 3))
    (kk : ∀ v I' P' J', post v I' P' J' → zJ C g N nL (cells + mc) (slots + ms) I' P' J' (pc + 3) lv (v.toList ++ st)) : zJ C g N nL cells slots I P J pc lv stk := by
  intro H locs ls hP hS hl2
  have hK := hC.2.2.2.2.2.1
  subst hst
  refine z_callRun (va_runS (As := As) (rest := st) ⟨hC.1, hC.2.1, hC.2.2.1, hC.2.2.2.1, hC.2.2.2.2.1⟩ hM (va_cwS n hC.2.2.2.2.1 (z_goodS (fun w h => List.mem_cons_of_mem _ h) hl hp) rfl hrm.1 hrm.2 hp.2.2.2 (by rw [hRm]; exact hR)) ⟨fun a U f mk q => ⟨q.1, q.2.calling f mk a⟩, fun U hU hWm => ⟨rfl, by rw [hU]; exact hP, hK.at hWm hU hS, hC.2.2.2.2.2.2⟩⟩ rfl hn hl2.1 rfl (by show 2 * 0 + _ ≤ 8; omega) hdg (by rw [hRm]; exact hf)) hS ?_
  intro v I' P' J' H1 locs1 hpost hP1 hS1
  exact kk v I' P' J' hpost H1 locs1 ls hP1 hS1 hl2
theorem z_callSN (hC : zX C cc nL own (w0 :: zU) g N) {y : MethodName} {bytes : ByteArray} {maxL n index mc ms : Nat} {ret : Option FieldType} {rm R0 : Room} {post : Option Value → (Nat → Nat → Int32) → (Nat → Nat → Option Nat) → (Nat → Nat → Int64) → Prop} {stk : List Value} {host : String} (As : List Value)
    (hM : z_Ct C.2.1 y (zT y bytes maxL ret) rm g N I P J As post mc ms) (hp : z_pkS y bytes maxL ret n) (hl : va_Nw (.methodLinkNest own index y host) C.2.2.2.2.1)
    (hrm : rm.cells = mc ∧ rm.slots = ms) (hn : As.length = n) (hst : stk = As.reverse ++ st) (hRm : C.2.2.2.1 = R0) (hR : rm.frames + 1 ≤ R0.frames ∧ 8 + (maxL + 11) + rm.locals ≤ R0.locals) (hW : (st.map fun v => v.category).sum ≤ 8) (hf : cells + mc ≤ R0.cells ∧ slots + ms ≤ R0.slots) (hdg : decode cc pc = .ok (.invokestatic index, 3))
    (kk : ∀ v I' P' J', post v I' P' J' → zJ C g N nL (cells + mc) (slots + ms) I' P' J' (pc + 3) lv (v.toList ++ st)) : zJ C g N nL cells slots I P J pc lv stk := by
  intro H locs ls hP hS hl2
  have hK := hC.2.2.2.2.2.1
  subst hst
  have hb : ∀ w ∈ zU, w ∈ w0 :: zU := fun w h => List.mem_cons_of_mem _ h
  have hG : GoodIn (w0 :: zU) (zT y bytes maxL ret) := z_goodL hb fun w hw => by
    rcases List.mem_cons.mp hw with rfl | hw
    · exact hp.2.2.1
    · exact hw
  refine z_callRun (va_runSN (As := As) (rest := st) ⟨hC.1, hC.2.1, hC.2.2.1, hC.2.2.2.1, hC.2.2.2.2.1⟩ hM ⟨va_cnB n hC.2.2.2.2.1 hG rfl hrm.1 hrm.2 hl (hC.2.2.2.2.1 _ (hb _ hp.2.1)) hp.2.2.2 (by rw [hRm]; exact hR), hC.2.2.2.2.1 _ (hb _ hp.1), trivial⟩ ⟨fun a U f mk q => ⟨q.1, q.2.calling f mk a⟩, fun U hU hWm => ⟨rfl, by rw [hU]; exact hP, hK.at hWm hU hS, hC.2.2.2.2.2.2⟩⟩ rfl hn hl2.1 rfl (by show 2 * 0 + _ ≤ 8; omega) hdg (by rw [hRm]; exact hf)) hS ?_
  intro v I' P' J' H1 locs1 hpost hP1 hS1
  exact kk v I' P' J' hpost H1 locs1 ls hP1 hS1 hl2
variable {post : Option Value → (Nat → Nat → Int32) → (Nat → Nat → Option Nat) → (Nat → Nat → Int64) → Prop} {mc ms : Nat} {Ts : List Cond}
/-- what the end needs: the return type, no lock, the goal -/
def zE (C : zC) (g : zG) (N mc ms : Nat) (ret : Option FieldType) (post : Option Value → (Nat → Nat → Int32) → (Nat → Nat → Option Nat) → (Nat → Nat → Int64) → Prop) : Prop := C.2.2.2.2.2.2.2.2.1.sig.returnType = ret ∧ C.2.2.2.2.2.2.2.2.1.locks = false ∧ C.2.2.2.2.2.2.2.2.2.2 = MQ C.2.2.2.2.2.2.2.1 (z_Q g N post) C.2.2.2.2.2.2.1 C.2.2.2.2.1 mc ms (z_A g)
theorem z_iret (hC : zX C cc nL own Ts g N) {v : Int32} (hE : zE C g N mc ms (some .int) post) (hdg : decode cc pc = .ok (.ireturn, 1)) (hp : post (some (.int v)) I P J) : zJ C g N nL mc ms I P J pc lv [.int v] := fun H locs ls hP hS hl => by
  unfold zWc
  rw [hE.2.2]
  exact W.iret hC.1 hC.2.1 hE.1 (fun t ht hW => ⟨⟨_, I, P, J, rfl, hp, by rw [ht]; exact hP⟩, hS.F ht⟩) hS.2.2 hdg hE.2.1
theorem z_zret (hC : zX C cc nL own Ts g N) {v : Int32} (hE : zE C g N mc ms (some .boolean) post) (hn : narrow .boolean (.int v) = .int v) (hdg : decode cc pc = .ok (.ireturn, 1)) (hp : post (some (.int v)) I P J) : zJ C g N nL mc ms I P J pc lv [.int v] := fun H locs ls hP hS hl => by
  unfold zWc
  rw [hE.2.2]
  exact W.zret hC.1 hC.2.1 hE.1 hn (fun t ht hW => ⟨⟨_, I, P, J, rfl, hp, by rw [ht]; exact hP⟩, hS.F ht⟩) hS.2.2 hdg hE.2.1
theorem z_lret (hC : zX C cc nL own Ts g N) {v : Int64} (hE : zE C g N mc ms (some .long) post) (hdg : decode cc pc = .ok (.lreturn, 1)) (hp : post (some (.long v)) I P J) : zJ C g N nL mc ms I P J pc lv [.long v] := fun H locs ls hP hS hl => by
  unfold zWc
  rw [hE.2.2]
  exact W.lret hC.1 hC.2.1 hE.1 (fun t ht hW => ⟨⟨_, I, P, J, rfl, hp, by rw [ht]; exact hP⟩, hS.F ht⟩) hS.2.2 hdg hE.2.1
theorem z_vret (hC : zX C cc nL own Ts g N) (hE : zE C g N mc ms none post) (hdg : decode cc pc = .ok (.return_, 1)) (hp : post none I P J) : zJ C g N nL mc ms I P J pc lv [] := fun H locs ls hP hS hl => by
  unfold zWc
  rw [hE.2.2]
  exact W.vret hC.1 hC.2.1 hE.1 (fun t ht hW => ⟨⟨_, I, P, J, rfl, hp, by rw [ht]; exact hP⟩, hS.F ht⟩) hS.2.2 hdg hE.2.1
theorem z_aret (hC : zX C cc nL own Ts g N) {v : Value} {cn : String} (hE : zE C g N mc ms (some (.object cn)) post) (hv : z_isr v) (hdg : decode cc pc = .ok (.areturn, 1)) (hp : post (some v) I P J) : zJ C g N nL mc ms I P J pc lv [v] := fun H locs ls hP hS hl => by
  unfold zWc
  rw [hE.2.2]
  exact W.aret hC.1 hC.2.1 hE.1 (Or.inl ⟨cn, rfl⟩) hv (fun t ht hW => ⟨⟨_, I, P, J, rfl, hp, by rw [ht]; exact hP⟩, hS.F ht⟩) hS.2.2 hdg hE.2.1
theorem z_of {l : Launch} {y : MethodName} {rm : Room} {av : List Value} {maxL : Nat} {ret : Option FieldType} (hy : plainName y.cls = true) (hn : (lg_sl av).length ≤ maxL) {lv0 : List (Nat × Value)} (hl0 : lv_args 0 av = lv0)
    (body : ∀ C : zC, C.2.1 = l → zX C cc maxL y.cls (zT y cc maxL ret) g N → zE C g N mc ms ret post → C.2.2.2.1 = rm → zJ C g N maxL 0 0 I P J 0 lv0 []) : z_Ct l y (zT y cc maxL ret) rm g N I P J av post mc ms := by
  subst hl0
  refine Met.ofW (cc := cc) (maxL := maxL) (ret := ret) hy rfl ?_
  intro p e s m args below meth c s₁ B hml hv
  obtain ⟨rfl, hP, hK, hG⟩ := hv
  have hts := atoms_spec (ws := zT y cc maxL ret) B.pre
  have hown : s.vm.findClass y.cls = some m.cls := findClass_of_methodNamed B.named
  have h := body (p, l, e, (headSpec (zT y cc maxL ret) rm).room, s, m, av.toArray, below, meth, c, MQ below (z_Q g N post) av.toArray s mc ms (z_A g)) rfl ⟨B.exec, B.bytes, hml, hown, hts, hK, hG⟩ ⟨B.returns, B.notSynchronized, rfl⟩ rfl
  rw [lg_entry_eq]
  exact h s.heap [] _ hP va_S.rf (lv_entry av hn)
end ZC
