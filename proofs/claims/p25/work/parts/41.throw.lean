section ZXT
/-! EXCEPTIONS: 0 IndexOutOfBounds, 1 IllegalState, 2 IllegalArgument -/
def zEn (k : Nat) : String := match k with
  | 0 => "java/lang/IndexOutOfBoundsException"
  | 1 => "java/lang/IllegalStateException"
  | _ => "java/lang/IllegalArgumentException"
def zEic (k : Nat) : Nat := match k with
  | 0 => 193
  | 1 => 43
  | _ => 63
def zEik (k : Nat) : Nat := match k with
  | 0 => 189
  | 1 => 39
  | _ => 59
abbrev zXn : List String := ["java/lang/RuntimeException", "java/lang/Exception"]
def zTx : List (Nat × String) := [(191, "no such box"), (41, "39 boxes were added already"), (95, "no such property"), (104, "the value is out of its range"), (117, "a viewport is 0 to 2000 wide and high"), (197, "the box is hidden"), (165, "n is 0 to 100")]
def zDn (n : Nat) : MethodName := Bundle.initS (match n with
  | 0 => "java/lang/RuntimeException"
  | 1 => "java/lang/Exception"
  | _ => Bundle.tN)
/-- what a throw knows of the machine -/
def z_KX (g : zG) (sa : Nat → Nat) (U : State) : Prop := (vx_Zq Bundle.tN "UNASSIGNED_STACK" Bundle.steD (z_A g) U U.heap ∧ vx_Zq Bundle.tN "SUPPRESSED_SENTINEL" Bundle.listD (z_A g) U U.heap) ∧ (∀ (k : Nat) (q : Nat × String), zTx[k]? = some q → vk_R "FlexibleBoxes" q.1 q.2 (sa k) U) ∧ (∀ k : Nat, k < 3 → va_Nw (.castable (zEn k) (zEn k)) U) ∧ ∀ n : Nat, n < 3 → va_Nw (.declares (zDn n)) U
theorem z_KX.at {g : zG} {sa : Nat → Nat} {s U : State} {H : Heap} {locs : List Loc} (hW : s.WarmedH U.vm) (hU : U.heap = H) (hS : va_S (z_A g) s.heap H locs) (h : z_KX g sa s) : z_KX g sa U := by
  obtain ⟨⟨h1, h2⟩, h3, h4, h5⟩ := h
  refine ⟨⟨?_, ?_⟩, fun k q hq => vk_R.warm hW (h3 k q hq), fun k hk => va_Nw.warmC hW (h4 k hk), fun n hn => va_Nw.warmD hW (h5 n hn)⟩
  · rw [hU]; exact vx_Zq.moved hW.alike (h1.kept hS.2.1)
  · rw [hU]; exact vx_Zq.moved hW.alike (h2.kept hS.2.1)
theorem z_KX.calling {g : zG} {sa : Nat → Nat} {U : State} (f : JFrame) (mk : MethodId) (a : Array Value) (h : z_KX g sa U) : z_KX g sa (U.calling f mk a) := by
  obtain ⟨⟨h1, h2⟩, h3, h4, h5⟩ := h
  exact ⟨⟨vx_Zq.moved (U := U.calling f mk a) (Vm.Alike.refl U.vm) h1, vx_Zq.moved (U := U.calling f mk a) (Vm.Alike.refl U.vm) h2⟩, fun k q hq => vk_R.same (U := U.calling f mk a) rfl (h3 k q hq), fun k hk => va_Nw.same (U := U.calling f mk a) rfl rfl (h4 k hk), fun n hn => va_Nw.same (U := U.calling f mk a) rfl rfl (h5 n hn)⟩
/-- what is so when a method throws -/
def zXC (g : zG) (N : Nat) (xp : String → (Nat → Nat → Int32) → (Nat → Nat → Option Nat) → (Nat → Nat → Int64) → Prop) : String → State → State → Prop := fun E st t => (∃ I P J, xp E I P J ∧ va_P g.2.1 zCls (z_wl g N I P J) t.heap) ∧ va_F (z_A g) st t
/-- the contract of a method that returns or throws -/
def z_CtX (l : Launch) (y : MethodName) (ws : List Cond) (rm : Room) (g : zG) (sa : Nat → Nat) (N : Nat) (I : Nat → Nat → Int32) (P : Nat → Nat → Option Nat) (J : Nat → Nat → Int64) (av : List Value) (post : Option Value → (Nat → Nat → Int32) → (Nat → Nat → Option Nat) → (Nat → Nat → Int64) → Prop) (xp : String → (Nat → Nat → Int32) → (Nat → Nat → Option Nat) → (Nat → Nat → Int64) → Prop) (mc ms : Nat) : Prop :=
  vx_Met l y ws rm (va_Pc av (fun U => z_W g N I P J U ∧ z_KX g sa U)) (z_Q g N post) (zXC g N xp) mc ms (z_A g)
variable {C : zC} {g : zG} {sa : Nat → Nat} {N nL : Nat} {I : Nat → Nat → Int32} {P : Nat → Nat → Option Nat} {J : Nat → Nat → Int64} {pc : Nat} {lv : List (Nat × Value)} {st : List Value} {cc : ByteArray} {own : String} {w0 : Cond} {cells slots mc ms : Nat} {Ts : List Cond}
variable {post : Option Value → (Nat → Nat → Int32) → (Nat → Nat → Option Nat) → (Nat → Nat → Int64) → Prop} {xp : String → (Nat → Nat → Int32) → (Nat → Nat → Option Nat) → (Nat → Nat → Int64) → Prop}
/-- the end of a method that may throw -/
def zEX (C : zC) (g : zG) (N mc ms : Nat) (ret : Option FieldType) (post : Option Value → (Nat → Nat → Int32) → (Nat → Nat → Option Nat) → (Nat → Nat → Int64) → Prop) (xp : String → (Nat → Nat → Int32) → (Nat → Nat → Option Nat) → (Nat → Nat → Int64) → Prop) : Prop := C.2.2.2.2.2.2.2.2.1.sig.returnType = ret ∧ C.2.2.2.2.2.2.2.2.1.locks = false ∧ C.2.2.2.2.2.2.2.2.2.2 = vx_MQ C.2.2.2.2.2.2.2.1 (z_Q g N post) (zXC g N xp) C.2.2.2.2.2.2.1 C.2.2.2.2.1 mc ms (z_A g) ∧ ∀ x ∈ C.2.2.2.2.2.2.2.2.2.1.exceptionTable.toList, False
theorem z_ofX {l : Launch} {y : MethodName} {rm : Room} {av : List Value} {maxL : Nat} {ret : Option FieldType} (hy : plainName y.cls = true) (hn : (lg_sl av).length ≤ maxL) {lv0 : List (Nat × Value)} (hl0 : lv_args 0 av = lv0)
    (body : ∀ C : zC, C.2.1 = l → zX C cc maxL y.cls (zT y cc maxL ret) g N → zEX C g N mc ms ret post xp → C.2.2.2.1 = rm → z_KX g sa C.2.2.2.2.1 → zJ C g N maxL 0 0 I P J 0 lv0 []) : z_CtX l y (zT y cc maxL ret) rm g sa N I P J av post xp mc ms := by
  subst hl0
  refine vx_ofW (cc := cc) (maxL := maxL) (ret := ret) hy rfl ?_
  intro p e s m args below meth c s₁ B hml htb hv
  obtain ⟨rfl, ⟨hP, hK, hG⟩, hX⟩ := hv
  have hts := atoms_spec (ws := zT y cc maxL ret) B.pre
  have hown : s.vm.findClass y.cls = some m.cls := findClass_of_methodNamed B.named
  have h := body (p, l, e, (headSpec (zT y cc maxL ret) rm).room, s, m, av.toArray, below, meth, c, vx_MQ below (z_Q g N post) (zXC g N xp) av.toArray s mc ms (z_A g)) rfl ⟨B.exec, B.bytes, hml, hown, hts, hK, hG⟩ ⟨B.returns, B.notSynchronized, rfl, htb⟩ rfl hX
  rw [lg_entry_eq]
  exact h s.heap [] _ hP va_S.rf (lv_entry av hn)
theorem zEX.run {ret : Option FieldType} (hE : zEX C g N mc ms ret post xp) (hc : cells ≤ mc ∧ slots ≤ ms) {H : Heap} {locs : List Loc} {f : JFrame} (h : W C.1 C.2.1 C.2.2.1 C.2.2.2.1 C.2.2.2.2.1 C.2.2.2.2.2.1 C.2.2.2.2.2.2.1 C.2.2.2.2.2.2.2.1 C.2.2.2.2.2.2.2.2.1 C.2.2.2.2.2.2.2.2.2.1 H locs mc ms (MQ C.2.2.2.2.2.2.2.1 (z_Q g N post) C.2.2.2.2.2.2.1 C.2.2.2.2.1 mc ms (z_A g)) f) : zWc C H locs cells slots f := by
  unfold zWc
  rw [hE.2.2.1]
  exact W.widen hc.1 hc.2 (vx_ret h)
theorem z_iretX (hC : zX C cc nL own Ts g N) {v : Int32} (hE : zEX C g N mc ms (some .int) post xp) (hc : cells ≤ mc ∧ slots ≤ ms) (hdg : decode cc pc = .ok (.ireturn, 1)) (hp : post (some (.int v)) I P J) : zJ C g N nL cells slots I P J pc lv [.int v] := fun H locs ls hP hS hl =>
  hE.run hc (W.iret hC.1 hC.2.1 hE.1 (fun t ht hW => ⟨⟨_, I, P, J, rfl, hp, by rw [ht]; exact hP⟩, hS.F ht⟩) hS.2.2 hdg hE.2.1)
theorem z_vretX (hC : zX C cc nL own Ts g N) (hE : zEX C g N mc ms none post xp) (hc : cells ≤ mc ∧ slots ≤ ms) (hdg : decode cc pc = .ok (.return_, 1)) (hp : post none I P J) : zJ C g N nL cells slots I P J pc lv [] := fun H locs ls hP hS hl =>
  hE.run hc (W.vret hC.1 hC.2.1 hE.1 (fun t ht hW => ⟨⟨_, I, P, J, rfl, hp, by rw [ht]; exact hP⟩, hS.F ht⟩) hS.2.2 hdg hE.2.1)
theorem z_aretX (hC : zX C cc nL own Ts g N) {v : Value} {cn : String} (hE : zEX C g N mc ms (some (.object cn)) post xp) (hc : cells ≤ mc ∧ slots ≤ ms) (hv : z_isr v) (hdg : decode cc pc = .ok (.areturn, 1)) (hp : post (some v) I P J) : zJ C g N nL cells slots I P J pc lv [v] := fun H locs ls hP hS hl =>
  hE.run hc (W.aret hC.1 hC.2.1 hE.1 (Or.inl ⟨cn, rfl⟩) hv (fun t ht hW => ⟨⟨_, I, P, J, rfl, hp, by rw [ht]; exact hP⟩, hS.F ht⟩) hS.2.2 hdg hE.2.1)
/-- a call that may throw; what it throws goes on to the caller -/
theorem z_callVX (hC : zX C cc nL own (w0 :: zU) g N) {mc0 ms0 : Nat} {ret0 : Option FieldType} {post0 : Option Value → (Nat → Nat → Int32) → (Nat → Nat → Option Nat) → (Nat → Nat → Int64) → Prop} {xp0 : String → (Nat → Nat → Int32) → (Nat → Nat → Option Nat) → (Nat → Nat → Int64) → Prop} (hE : zEX C g N mc0 ms0 ret0 post0 xp0) (hX : z_KX g sa C.2.2.2.2.1) {y : MethodName} {bytes : ByteArray} {maxL n index : Nat} {ret : Option FieldType} {Cn : String} {Tn : u_T} {NN ci id : Nat} {rm R0 : Room} {stk : List Value} (As : List Value)
    (hM : z_CtX C.2.1 y (zT y bytes maxL ret) rm g sa N I P J (.ref (g.1 id) :: As) post xp mc ms) (hsh : z_sh id = (false, ci, 0)) (hid : id < N) (hc : zCls[ci]? = some (Cn, Tn, NN)) (hp : z_pkV y bytes maxL ret Cn n) (hl : Cond.methodLink own index y ∈ zU)
    (hrm : rm.cells = mc ∧ rm.slots = ms) (hn : As.length = n) (hst : stk = As.reverse ++ .ref (g.1 id) :: st) (hRm : C.2.2.2.1 = R0) (hR : rm.frames + 1 ≤ R0.frames ∧ 8 + (maxL + 11) + rm.locals ≤ R0.locals) (hW : (st.map fun v => v.category).sum ≤ 8) (hf : cells + mc ≤ R0.cells ∧ slots + ms ≤ R0.slots) (hf0 : cells + mc ≤ mc0 ∧ slots + ms ≤ ms0) (hdg : decode cc pc = .ok (.invokevirtual index, 3))
    (hxx : ∀ E I' P' J', xp E I' P' J' → xp0 E I' P' J')
    (kk : ∀ v I' P' J', post v I' P' J' → zJ C g N nL (cells + mc) (slots + ms) I' P' J' (pc + 3) lv (v.toList ++ st)) : zJ C g N nL cells slots I P J pc lv stk := by
  intro H locs ls hP hS hl2
  have hK := hC.2.2.2.2.2.1
  subst hst
  intro T hT X
  rcases (vx_runV (b := g.1 id) (As := As) (rest := st) ⟨hC.1, hC.2.1, hC.2.2.1, hC.2.2.2.1, hC.2.2.2.2.1⟩ hM (cwV n hC.2.2.2.2.1 (z_goodV (fun w h => List.mem_cons_of_mem _ h) hl hp) rfl hrm.1 hrm.2 hp.2.2.2.2 (by rw [hRm]; exact hR)) ⟨fun a U f mk q => ⟨q.1, q.2.1.calling f mk a, q.2.2.calling f mk a⟩, va_recv hK.1 hP hc (q0 := id) (by rw [z_wl_get hid, z_cn_ob hsh]), fun U hU hWm => ⟨rfl, ⟨by rw [hU]; exact hP, hK.at hWm hU hS, hC.2.2.2.2.2.2⟩, hX.at hWm hU hS⟩⟩ (g := F0 C.2.2.2.2.2.1 pc ls (As.reverse ++ .ref (g.1 id) :: st)) rfl hn hl2.1 rfl (by show 2 * 0 + _ ≤ 8; omega) hdg (by rw [hRm]; exact hf)) T hT X with ⟨v, st₀, t, T', L, h0, X', hL, e1, e2, ⟨⟨v', I', P', J', hv, hpo, hb⟩, hF⟩, stp⟩ | ⟨q, st₀, t, T', L, E, ce, h0, X', hL, e1, e2, ⟨⟨I', P', J', hpo, hb⟩, hF⟩, hce, hcv, hcl, stp⟩
  · cases hv
    obtain ⟨k1, k2, k3⟩ := vx_keep h0 e1 hS (fun q _ h => h) (fun q h => h) hL hF
    obtain ⟨t2, a1, b1⟩ := kk v I' P' J' hpo T'.heap (locs ++ L) ls (by rw [e1]; exact hb) k3 hl2 T' rfl X'
    exact ⟨t2, stp t2 a1, b1⟩
  · obtain ⟨k1, k2, k3⟩ := vx_keep h0 e1 hS (fun q _ h => h) (fun q h => h) hL hF
    rw [hE.2.2.1]
    have hx0 : ∀ t9 : State, t9.heap = T'.heap → C.2.2.2.2.1.vm.Alike t9.vm → zXC g N xp0 E C.2.2.2.2.1 t9 := fun t9 ht9 _ => ⟨⟨I', P', J', hxx E I' P' J' hpo, by rw [ht9, e1]; exact hb⟩, k3.F ht9⟩
    obtain ⟨t2, a1, b1⟩ := vx_out (p := C.1) (l := C.2.1) (e := C.2.2.1) (R := C.2.2.2.1) (s := C.2.2.2.2.1) (m := C.2.2.2.2.2.1) (args := C.2.2.2.2.2.2.1) (below := C.2.2.2.2.2.2.2.1) (meth := C.2.2.2.2.2.2.2.2.1) (c := C.2.2.2.2.2.2.2.2.2.1) (free := z_A g) (Qc := z_Q g N post0) (XC := zXC g N xp0) (ls := ls) (rest := st) (pc := pc) (fun x hx => (hE.2.2.2 x hx).elim) hE.2.1 (by rw [e1]; exact hce) hcv hcl hx0 k3.2.2 hf0.1 hf0.2 T' rfl X'
    exact ⟨t2, stp.trans a1, b1⟩
/-- 'throw new E("text")' -/
theorem z_throw (hC : zX C cc nL "FlexibleBoxes" (w0 :: zU) g N) {ret : Option FieldType} (hE : zEX C g N mc ms ret post xp) (hX : z_KX g sa C.2.2.2.2.1) {R0 : Room} (hRm : C.2.2.2.1 = R0) (hflag : C.2.1.stackTraces = false) (k j : Nat) {is : Nat} {text : String} (hk : k < 3) (hj : zTx[j]? = some (is, text)) (hfit : Bundle.fit (zEn k) = true)
    (hlk : Cond.classLink "FlexibleBoxes" (zEik k) (zEn k) ∈ zU) (hin : Cond.initialized (zEn k) ∈ zU) (hat : ∀ w ∈ (vx_atS "FlexibleBoxes" (zEic k) (zEn k) zXn).filter goodWord, w ∈ zU) (hnb : ∀ w ∈ (vx_atS "FlexibleBoxes" (zEic k) (zEn k) zXn).filter (fun w => !goodWord w), w ∈ [Cond.declares (zDn 0), Cond.declares (zDn 1), Cond.declares (zDn 2), Cond.castable (zEn k) (zEn k)]) (hgw : ∀ w ∈ vx_atS "FlexibleBoxes" (zEic k) (zEn k) zXn, vx_ot w = true)
    (d0 : decode cc pc = .ok (.new (zEik k), 3)) (d3 : decode cc (pc + 3) = .ok (.dup, 1)) (d4 : decode cc (pc + 4) = .ok (.ldc is, 2)) (d6 : decode cc (pc + 6) = .ok (.invokespecial (zEic k), 3)) (d9 : decode cc (pc + 9) = .ok (.athrow, 1))
    (hR : 5 < R0.frames ∧ (st.map fun v => v.category).sum + 82 ≤ R0.locals ∧ cells + 1 ≤ R0.cells ∧ slots + 6 ≤ R0.slots) (hc : cells + 1 ≤ mc ∧ slots + 6 ≤ ms) (hp : xp (zEn k) I P J) : zJ C g N nL cells slots I P J pc lv st := by
  intro H locs ls hP hS hl2
  have ot : ∀ w ∈ zU, vx_ot w = true := fun w h => by
    unfold vx_ot
    rw [zin_g h, Bool.or_true]
  have at' : ∀ w ∈ zU, w.before C.2.2.2.2.2.2.1 C.2.2.2.2.1 = true := fun w h => hC.2.2.2.2.1 w (List.mem_cons_of_mem _ h)
  unfold zWc
  rw [hE.2.2.1]
  refine vx_throwS (text := text) (names := zXn) (sa := sa j) (A := z_A g) hC.1 hC.2.1 hflag hC.2.2.2.1 hfit (by decide +kernel) (at' _ hlk) (at' _ hin) (hX.2.1 j _ hj) ?_ ?_ hX.1.1 hX.1.2 hS (hl2.1.trans hC.2.2.1.symm) d0 d3 d4 d6 d9 (fun x hx => (hE.2.2.2 x hx).elim) (by rw [hRm]; exact hR.1) (by rw [hRm]; exact hR.2.1) (by rw [hRm]; exact hR.2.2.1) (by rw [hRm]; exact hR.2.2.2) hE.2.1 ?_ hS.2.2 hc.1 hc.2
  · refine vx_hat (fun w h => at' w (hat w h)) hnb (vx_c (va_Nw.use rfl (hX.2.2.2 0 (by decide))) (vx_c (va_Nw.use rfl (hX.2.2.2 1 (by decide))) (vx_c (va_Nw.use rfl (hX.2.2.2 2 (by decide))) (vx_c (va_Nw.use rfl (hX.2.2.1 k hk)) vx_n))))
  · intro w hw
    rcases List.mem_cons.mp hw with rfl | hw
    · exact ot _ hlk
    · rcases List.mem_cons.mp hw with rfl | hw
      · exact ot _ hin
      · exact hgw w hw
  · intro t _ hz hk2
    exact ⟨⟨I, P, J, hp, hP.kept (fun k9 q9 h9 => hk2 q9.1 (vx_lt hP h9))⟩, Nat.le_trans hS.1 hz, fun q h1 h2 => by rw [hk2 q (Nat.lt_of_lt_of_le h1 hS.1)]; exact hS.2.1 q h1 h2⟩
end ZXT
