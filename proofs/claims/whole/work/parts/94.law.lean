section ZLW
/-! THE LAW'S LOOP: one case after the other -/
def z_pkH (y : MethodName) (cc : ByteArray) (maxL : Nat) (ret : Option FieldType) (hh : List (Nat × Nat × Nat × Nat)) (n : Nat) : Prop := Cond.static y ∈ zU ∧ Cond.initialized y.cls ∈ zU ∧ Cond.codeWith y cc maxL ret hh ∈ zU ∧ (y.cls ≠ "java/lang/invoke/MethodHandle" ∧ y.cls ≠ "java/lang/invoke/VarHandle" ∧ (parseMethodDescriptor y.desc).map (fun d => d.parameters.length) = some n)
theorem z_goodH {big : List Cond} {own : String} {index : Nat} {y : MethodName} {cc : ByteArray} {maxL n : Nat} {ret : Option FieldType} {hh : List (Nat × Nat × Nat × Nat)} (hb : ∀ w ∈ zU, w ∈ big) (hl : Cond.methodLink own index y ∈ zU) (hp : z_pkH y cc maxL ret hh n) : GoodIn big (va_wsS own index y (zTh y cc maxL ret hh)) := by
  refine z_goodL hb fun w hw => ?_
  unfold va_wsS zTh at hw
  simp only [List.cons_append, List.nil_append, List.mem_cons] at hw
  rcases hw with rfl | rfl | rfl | rfl | hw
  · exact hl
  · exact hp.1
  · exact hp.2.1
  · exact hp.2.2.1
  · exact hw
section
variable {C : zC} {g : zG} {sa : Nat → Nat} {N nL : Nat} {I : Nat → Nat → Int32} {P : Nat → Nat → Option Nat} {J : Nat → Nat → Int64} {pc : Nat} {lv : List (Nat × Value)} {st : List Value} {cc : ByteArray} {own : String} {w0 : Cond} {cells slots mc ms : Nat} {Ts : List Cond}
theorem z_callH (hC : zX C cc nL own (w0 :: zU) g N) (hX : z_KX g sa C.2.2.2.2.1) (hNC : z_NC C.2.2.2.2.1) {post : Option Value → (Nat → Nat → Int32) → (Nat → Nat → Option Nat) → (Nat → Nat → Int64) → Prop} {y : MethodName} {bytes : ByteArray} {maxL n index : Nat} {ret : Option FieldType} {hh : List (Nat × Nat × Nat × Nat)} {rm R0 : Room} {stk : List Value} (As : List Value)
    (hM : z_CtL C.2.1 y (zTh y bytes maxL ret hh) rm g sa N I P J As post mc ms) (hp : z_pkH y bytes maxL ret hh n) (hl : Cond.methodLink own index y ∈ zU) (hrm : rm.cells = mc ∧ rm.slots = ms) (hn : As.length = n) (hst : stk = As.reverse ++ st) (hRm : C.2.2.2.1 = R0) (hR : rm.frames + 1 ≤ R0.frames ∧ 8 + (maxL + 11) + rm.locals ≤ R0.locals) (hW : (st.map fun v => v.category).sum ≤ 8) (hf : cells + mc ≤ R0.cells ∧ slots + ms ≤ R0.slots) (hdg : decode cc pc = .ok (.invokestatic index, 3))
    (kk : ∀ v I' P' J', post v I' P' J' → zJ C g N nL (cells + mc) (slots + ms) I' P' J' (pc + 3) lv (v.toList ++ st)) : zJ C g N nL cells slots I P J pc lv stk := by
  intro H locs ls hP hS hl2
  have hK := hC.2.2.2.2.2.1
  subst hst
  refine z_callRun (vx_runSW (As := As) (rest := st) ⟨hC.1, hC.2.1, hC.2.2.1, hC.2.2.2.1, hC.2.2.2.2.1⟩ hM (vx_cwSW n hC.2.2.2.2.1 (z_goodH (fun w h => List.mem_cons_of_mem _ h) hl hp) rfl hrm.1 hrm.2 hp.2.2.2 (by rw [hRm]; exact hR)) ⟨fun a U f mk q => ⟨q.1, q.2.1.calling f mk a, q.2.2.1.calling f mk a, q.2.2.2.moved (U := U.calling f mk a) (Vm.Alike.refl U.vm)⟩, fun U hU hWm => ⟨rfl, ⟨by rw [hU]; exact hP, hK.at hWm hU hS, hC.2.2.2.2.2.2⟩, hX.at hWm hU hS, hNC.moved hWm.alike⟩⟩ rfl hn hl2.1 rfl (by show 2 * 0 + _ ≤ 8; omega) hdg (by rw [hRm]; exact hf)) hS ?_
  intro v I' P' J' H1 locs1 hpost hP1 hS1
  exact kk v I' P' J' hpost H1 locs1 ls hP1 hS1 hl2
theorem z_callHG (hC : zX C cc nL own (w0 :: zU) g N) (hX : z_KX g sa C.2.2.2.2.1) (hAO : z_AOs g C.2.2.2.2.1) (hNC : z_NC C.2.2.2.2.1) {post : (Nat → Nat) → Nat → Option Value → (Nat → Nat → Int32) → (Nat → Nat → Option Nat) → (Nat → Nat → Int64) → Prop} {y : MethodName} {bytes : ByteArray} {maxL n index : Nat} {ret : Option FieldType} {hh : List (Nat × Nat × Nat × Nat)} {rm R0 : Room} {stk : List Value} (As : List Value)
    (hM : z_CtLG C.2.1 y (zTh y bytes maxL ret hh) rm g sa N I P J As post mc ms) (hp : z_pkH y bytes maxL ret hh n) (hl : Cond.methodLink own index y ∈ zU) (hrm : rm.cells = mc ∧ rm.slots = ms) (hn : As.length = n) (hst : stk = As.reverse ++ st) (hRm : C.2.2.2.1 = R0) (hR : rm.frames + 1 ≤ R0.frames ∧ 8 + (maxL + 11) + rm.locals ≤ R0.locals) (hW : (st.map fun v => v.category).sum ≤ 8) (hf : cells + mc ≤ R0.cells ∧ slots + ms ≤ R0.slots) (hdg : decode cc pc = .ok (.invokestatic index, 3))
    (kk : ∀ f N' v I' P' J', z_gd (f, g.2) N' → post f N' v I' P' J' → zJ C (f, g.2) N' nL (cells + mc) (slots + ms) I' P' J' (pc + 3) lv (v.toList ++ st)) : zJ C g N nL cells slots I P J pc lv stk := by
  intro H locs ls hP hS hl2
  have hK := hC.2.2.2.2.2.1
  subst hst
  intro T hT X
  obtain ⟨v, st₀, t, T', L, h0, X', hL, e1, e2, ⟨⟨v', f, N', I', P', J', hv, hpo, hgd, hb⟩, hF⟩, stp⟩ := (vx_runSW (As := As) (rest := st) ⟨hC.1, hC.2.1, hC.2.2.1, hC.2.2.2.1, hC.2.2.2.2.1⟩ hM (vx_cwSW n hC.2.2.2.2.1 (z_goodH (fun w h => List.mem_cons_of_mem _ h) hl hp) rfl hrm.1 hrm.2 hp.2.2.2 (by rw [hRm]; exact hR)) ⟨fun a U f mk q => ⟨q.1, q.2.1.calling f mk a, q.2.2.1.calling f mk a, q.2.2.2.1.moved (U := U.calling f mk a) (Vm.Alike.refl U.vm), q.2.2.2.2.moved (U := U.calling f mk a) (Vm.Alike.refl U.vm)⟩, fun U hU hWm => ⟨rfl, ⟨by rw [hU]; exact hP, hK.at hWm hU hS, hC.2.2.2.2.2.2⟩, hX.at hWm hU hS, hAO.moved hWm.alike, hNC.moved hWm.alike⟩⟩ (g := F0 C.2.2.2.2.2.1 pc ls (As.reverse ++ st)) rfl hn hl2.1 rfl (by show 2 * 0 + _ ≤ 8; omega) hdg (by rw [hRm]; exact hf)) T hT X
  cases hv
  obtain ⟨k1, k2, k3⟩ := vx_keep h0 e1 hS (fun q _ h => h) (fun q h => h) hL hF
  obtain ⟨t2, a1, b1⟩ := kk f N' v I' P' J' hgd hpo T'.heap (locs ++ L) ls (by rw [e1]; exact hb) k3 hl2 T' rfl X'
  exact ⟨t2, stp t2 a1, b1⟩
/-- the script read -/
theorem z_scr (hC : zX C cc nL own Ts g N) {b L : Nat} {xs : Nat → Int32} (hx : va_X b L xs C.2.2.2.2.1 C.2.2.2.2.1.heap) (hb : b < C.2.2.2.2.1.heap.size) (hA : ¬ z_A g b) (k : Nat) {x : Int32} (hi : x = nI k) (hk : k < L) (hL : L < 2 ^ 31) (hdg : decode cc pc = .ok (.iaload, 1)) (kk : zJ C g N nL cells slots I P J (pc + 1) lv (.int (xs k) :: st)) : zJ C g N nL cells slots I P J pc lv (.int x :: .ref b :: st) := by
  subst hi
  have e : (nI k).toNatClampNeg = k := nI_clamp (by omega)
  exact fun H locs ls hP hS hl => va_sld hC.1 hC.2.1 hx hb hA hS (vp_in_nI hk hL) hdg (by rw [e]; exact kk H locs ls hP hS hl)
theorem z_scl (hC : zX C cc nL own Ts g N) {b L : Nat} {xs : Nat → Int32} (hx : va_X b L xs C.2.2.2.2.1 C.2.2.2.2.1.heap) (hb : b < C.2.2.2.2.1.heap.size) (hA : ¬ z_A g b) (hdg : decode cc pc = .ok (.arraylength, 1)) (kk : zJ C g N nL cells slots I P J (pc + 1) lv (.int (nI L) :: st)) : zJ C g N nL cells slots I P J pc lv (.ref b :: st) := fun H locs ls hP hS hl => va_slen hC.1 hC.2.1 hx hb hA hS hdg (kk H locs ls hP hS hl)
end
theorem lg_cmp_self (x : Int64) : lg_cmp x x = 0 := by
  unfold lg_cmp
  rw [if_neg (fun h => Int64.lt_irrefl h), if_pos rfl]
/-- what the law's walk knows all the way -/
def zw0 : Cond := Cond.instanceMethod objectInit
def zLC (C : zC) (g : zG) (sa : Nat → Nat) (N b L : Nat) (xs : Nat → Int32) : Prop := zX C cL_law 7 RL (zw0 :: zU) g N ∧ z_KX g sa C.2.2.2.2.1 ∧ z_NC C.2.2.2.2.1 ∧ z_AOs g C.2.2.2.2.1 ∧ C.2.1.stackTraces = false ∧ C.2.2.2.1 = room_1 ∧ va_X b L xs C.2.2.2.2.1 C.2.2.2.2.1.heap ∧ b < C.2.2.2.2.1.heap.size ∧ ¬ z_A g b ∧ L ≤ 2048
theorem zLC.to {C : zC} {g : zG} {sa : Nat → Nat} {N N' b L : Nat} {xs : Nat → Int32} {f : Nat → Nat} (h : zLC C g sa N b L xs) (hG : z_gd (f, g.2) N') : zLC C (f, g.2) sa N' b L xs := by
  obtain ⟨h1, h2, h3, h4, h5, h6, h7, h8, h9, h10⟩ := h
  exact ⟨⟨h1.1, h1.2.1, h1.2.2.1, h1.2.2.2.1, h1.2.2.2.2.1, h1.2.2.2.2.2.1, hG⟩, h2, h3, h4, h5, h6, h7, h8, h9, h10⟩
/-- to the loop's end -/
def zLK (C : zC) (g : zG) (N kc ks b i : Nat) : Prop := ∀ (f : Nat → Nat) (N' : Nat) (σ : zS) (τ : Nat → zS) (I : Nat → Nat → Int32) (P : Nat → Nat → Option Nat) (J : Nat → Nat → Int64), z_gd (f, g.2) N' → (∀ j, j < N → f j = g.1 j) → N ≤ N' → zLI N' σ τ I P → zJ C (f, g.2) N' 7 (kc + 50) (ks + 1000) I P J 1334 [(4, .int (nI i)), (0, .ref b), (1, .ref (g.1 80)), (2, .ref (g.1 95)), (3, .ref (g.1 110))] []
theorem zLV_int {ks : List Nat} {post : Option Value → (Nat → Nat → Int32) → (Nat → Nat → Option Nat) → (Nat → Nat → Int64) → Prop} {xp : String → (Nat → Nat → Int32) → (Nat → Nat → Option Nat) → (Nat → Nat → Int64) → Prop} {v : Option Value} {I : Nat → Nat → Int32} {P : Nat → Nat → Option Nat} {J : Nat → Nat → Int64} (h : zLV ks post xp v I P J) : ∃ c, v = some (.int c) := by
  rcases h with ⟨h, -⟩ | ⟨i, k, -, h, -⟩ <;> exact ⟨_, h⟩
theorem zLN_int {ks : List Nat} {post : Option Value → (Nat → Nat → Int32) → (Nat → Nat → Option Nat) → (Nat → Nat → Int64) → Prop} {xp : String → (Nat → Nat → Int32) → (Nat → Nat → Option Nat) → (Nat → Nat → Int64) → Prop} {v : Option Value} {I : Nat → Nat → Int32} {P : Nat → Nat → Option Nat} {J : Nat → Nat → Int64} (h : zLN ks post xp v I P J) : ∃ c, v = some (.int c) := by
  rcases h with ⟨h, -⟩ | ⟨i, k, -, h, -⟩ <;> exact ⟨_, h⟩
theorem zLG_int {g : zG} {N : Nat} {ks : List Nat} {post : (Nat → Nat) → Nat → Option Value → (Nat → Nat → Int32) → (Nat → Nat → Option Nat) → (Nat → Nat → Int64) → Prop} {xp : String → (Nat → Nat → Int32) → (Nat → Nat → Option Nat) → (Nat → Nat → Int64) → Prop} {f : Nat → Nat} {N' : Nat} {v : Option Value} {I : Nat → Nat → Int32} {P : Nat → Nat → Option Nat} {J : Nat → Nat → Int64} (h : zLG g N ks post xp f N' v I P J) : ∃ c, v = some (.int c) := by
  rcases h with ⟨h, -⟩ | ⟨-, -, i, k, -, h, -⟩ <;> exact ⟨_, h⟩
theorem zLq.go {N : Nat} {τ : Nat → zS} {c b : Int32} {I2 : Nat → Nat → Int32} {P2 : Nat → Nat → Option Nat} {J2 : Nat → Nat → Int64} (h : zLq N τ (some (.int c)) (some (.int b)) I2 P2 J2) : I2 95 3 = c ∧ (c = 0 → J2 110 0 = b.toInt64) ∧ ∃ σ, zLI N σ τ I2 P2 := by
  obtain ⟨c2, b2, e1, e2, ht, ho, hs⟩ := h
  cases e1
  cases e2
  exact ⟨ht, ho, hs⟩
theorem zLn.go {N : Nat} {τ : Nat → zS} {c : Int32} {I2 : Nat → Nat → Int32} {P2 : Nat → Nat → Option Nat} (h : zLn N τ (some (.int c)) I2 P2) : I2 95 3 = c ∧ ∃ σ, zLI N σ τ I2 P2 := by
  obtain ⟨c2, e1, ht, hs⟩ := h
  cases e1
  exact ⟨ht, hs⟩
theorem zLnG.go {σ : zS} {f : Nat → Nat} {g : zG} {N N' : Nat} {c : Int32} {I2 : Nat → Nat → Int32} {P2 : Nat → Nat → Option Nat} (h : zLnG σ f g N N' (some (.int c)) I2 P2) : I2 95 3 = c ∧ ∃ τ', zLI N' σ τ' I2 P2 := by
  obtain ⟨-, -, c2, e1, ht, hs⟩ := h
  cases e1
  exact ⟨ht, hs⟩
theorem zLI.sl {N : Nat} {σ : zS} {τ : Nat → zS} {I : Nat → Nat → Int32} {P : Nat → Nat → Option Nat} (h : zLI N σ τ I P) : ∀ t s, t < 2 → P 85 t = some s → zsn s N ∧ zSn (τ t) I s := fun t s ht hp => by
  rcases h.2.2.2.1 t ht with ⟨q, -⟩ | ⟨s2, q1, q2, q3, -⟩
  · rw [q] at hp
    cases hp
  · have e : s = s2 := Option.some.inj (hp.symm.trans q1)
    rw [e]
    exact ⟨q2, q3⟩
theorem zhL_add : z_pkH yL_add cL_add 4 (Option.some FieldType.int) [(0, 9, 12, 13), (0, 9, 15, 15)] 3 := ⟨zm_2_191, zm_1_0, zm_2_192, by decide, by decide, by decide +kernel⟩
theorem zhL_remove : z_pkH yL_remove cL_remove 4 (Option.some FieldType.int) [(0, 9, 12, 13), (0, 9, 15, 20)] 3 := ⟨zm_3_57, zm_1_0, zm_3_58, by decide, by decide, by decide +kernel⟩
theorem zhL_parent : z_pkH yL_parent cL_parent 4 (Option.some FieldType.int) [(0, 9, 12, 13)] 3 := ⟨zm_3_86, zm_1_0, zm_3_87, by decide, by decide, by decide +kernel⟩
theorem zhL_child : z_pkH yL_child cL_child 5 (Option.some FieldType.int) [(0, 10, 13, 13)] 4 := ⟨zm_3_97, zm_1_0, zm_3_98, by decide, by decide, by decide +kernel⟩
theorem zhL_set : z_pkH yL_set cL_set 6 (Option.some FieldType.int) [(0, 12, 15, 13), (0, 12, 19, 20)] 5 := ⟨zm_3_104, zm_1_0, zm_3_105, by decide, by decide, by decide +kernel⟩
theorem zhL_get : z_pkH yL_get cL_get 5 (Option.some FieldType.int) [(0, 10, 13, 13), (0, 10, 17, 20)] 4 := ⟨zm_3_125, zm_1_0, zm_3_126, by decide, by decide, by decide +kernel⟩
theorem zhL_copyStyle : z_pkH yL_copyStyle cL_copyStyle 5 (Option.some FieldType.int) [(0, 10, 13, 13)] 4 := ⟨zm_3_133, zm_1_0, zm_3_134, by decide, by decide, by decide +kernel⟩
theorem zhL_viewport : z_pkH yL_viewport cL_viewport 4 (Option.some FieldType.int) [(0, 6, 9, 20)] 3 := ⟨zm_3_140, zm_1_0, zm_3_141, by decide, by decide, by decide +kernel⟩
theorem zhL_x : z_pkH yL_x cL_x 4 (Option.some FieldType.int) [(0, 9, 12, 13), (0, 9, 15, 15)] 3 := ⟨zm_3_151, zm_1_0, zm_3_152, by decide, by decide, by decide +kernel⟩
theorem zhL_y : z_pkH yL_y cL_y 4 (Option.some FieldType.int) [(0, 9, 12, 13), (0, 9, 15, 15)] 3 := ⟨zm_3_163, zm_1_0, zm_3_164, by decide, by decide, by decide +kernel⟩
theorem zhL_width : z_pkH yL_width cL_width 4 (Option.some FieldType.int) [(0, 9, 12, 13), (0, 9, 15, 15)] 3 := ⟨zm_3_170, zm_1_0, zm_3_171, by decide, by decide, by decide +kernel⟩
theorem zhL_height : z_pkH yL_height cL_height 4 (Option.some FieldType.int) [(0, 9, 12, 13), (0, 9, 15, 15)] 3 := ⟨zm_3_177, zm_1_0, zm_3_178, by decide, by decide, by decide +kernel⟩
theorem zhL_naturalWidth : z_pkH yL_naturalWidth cL_naturalWidth 4 (Option.some FieldType.int) [(0, 9, 12, 13), (0, 9, 15, 15)] 3 := ⟨zm_3_184, zm_1_0, zm_3_185, by decide, by decide, by decide +kernel⟩
theorem zhL_naturalHeight : z_pkH yL_naturalHeight cL_naturalHeight 4 (Option.some FieldType.int) [(0, 9, 12, 13), (0, 9, 15, 15)] 3 := ⟨zm_3_191, zm_1_0, zm_3_192, by decide, by decide, by decide +kernel⟩
theorem zhL_lines : z_pkH yL_lines cL_lines 4 (Option.some FieldType.int) [(0, 9, 12, 13), (0, 9, 15, 15)] 3 := ⟨zm_3_198, zm_1_0, zm_3_199, by decide, by decide, by decide +kernel⟩
theorem zhL_lineOf : z_pkH yL_lineOf cL_lineOf 4 (Option.some FieldType.int) [(0, 9, 12, 13), (0, 9, 15, 15)] 3 := ⟨zm_3_205, zm_1_0, zm_3_206, by decide, by decide, by decide +kernel⟩
theorem zhL_overflow : z_pkH yL_overflow cL_overflow 4 (Option.some FieldType.int) [(0, 9, 12, 13), (0, 9, 15, 15)] 3 := ⟨zm_3_212, zm_1_0, zm_3_213, by decide, by decide, by decide +kernel⟩
theorem zhL_widthFor : z_pkH yL_widthFor cL_widthFor 5 (Option.some FieldType.int) [(0, 10, 13, 13), (0, 10, 17, 20), (0, 10, 21, 15)] 4 := ⟨zm_3_225, zm_1_0, zm_3_226, by decide, by decide, by decide +kernel⟩
theorem zhL_save : z_pkH yL_save cL_save 3 (Option.some FieldType.int) [(0, 5, 8, 20)] 2 := ⟨zm_4_4, zm_1_0, zm_4_5, by decide, by decide, by decide +kernel⟩
theorem zhL_restore : z_pkH yL_restore cL_restore 3 (Option.some FieldType.int) [(0, 5, 8, 20), (0, 5, 11, 15)] 2 := ⟨zm_4_49, zm_1_0, zm_4_50, by decide, by decide, by decide +kernel⟩
theorem zLw_add {C : zC} {g : zG} {sa : Nat → Nat} {N b L i kc ks : Nat} {xs : Nat → Int32} {σ : zS} {τ : Nat → zS} {I : Nat → Nat → Int32} {P : Nat → Nat → Option Nat} {J : Nat → Nat → Int64} (hLC : zLC C g sa N b L xs) (hi : i + 4 ≤ L) (hcb : kc + 50 ≤ 601024) (hsb : ks + 1000 ≤ 7293034) (hI : zLI N σ τ I P) (hkk : zLK C g N kc ks b i) : zJ C g N 7 kc ks I P J 140 [(4, .int (nI i)), (0, .ref b), (1, .ref (g.1 80)), (2, .ref (g.1 95)), (3, .ref (g.1 110))] [] := by
  obtain ⟨hC, hX, hNC, hAO, hst, hRm, hx, hbs, hA, hL⟩ := id hLC
  have hG := hC.2.2.2.2.2.2
  refine z_aload_n (pc := 140) hC 2 dL_law_140 rfl rfl z_isr_r ?_
  refine z_aload_n (pc := 141) hC 1 dL_law_141 rfl rfl z_isr_r ?_
  refine z_iload (pc := 142) hC 0 dL_law_142 rfl ?_
  refine z_iconst (pc := 144) (v := 1) hC dL_law_144 rfl ?_
  refine z_iadd (pc := 145) hC dL_law_145 ?_
  refine z_scr (pc := 146) hC hx hbs hA (i + 1) (nI_add i 1) (by omega) (by omega) dL_law_146 ?_
  refine z_aload_n (pc := 147) hC 4 dL_law_147 rfl rfl z_isr_r ?_
  refine z_callH (pc := 148) (st := []) hC hX hNC [.ref (g.1 80), .int (xs (i + 1)), .ref (g.1 110)] (kL_add C.2.1 hst g sa N I P J hI.1  (xs (i + 1))) zhL_add zm_2_190 ⟨rfl, rfl⟩ rfl rfl hRm ⟨Nat.le_of_ble_eq_true rfl, Nat.le_of_ble_eq_true rfl⟩ (Nat.le_of_ble_eq_true rfl) ⟨(by show kc + 2 ≤ 601024; omega), (by show ks + 12 ≤ 7293034; omega)⟩ dL_law_148 (fun v I1 P1 J1 hv => ?_)
  obtain ⟨c, hvc⟩ := zLV_int hv
  subst hvc
  have hmd : zMd σ I1 := by
    rcases hv with ⟨-, r, K1, -, hp⟩ | ⟨i9, k9, -, -, hp⟩
    · exact hI.md hp.2
    · exact hI.md hp.2.2
  show zJ C g N 7 (kc + 2) (ks + 12) I1 P1 J1 151 [(4, .int (nI i)), (0, .ref b), (1, .ref (g.1 80)), (2, .ref (g.1 95)), (3, .ref (g.1 110))] [.int c]
  refine z_istore (pc := 151) (lv' := [(5, .int c), (4, .int (nI i)), (0, .ref b), (1, .ref (g.1 80)), (2, .ref (g.1 95)), (3, .ref (g.1 110))]) hC dL_law_151 (by decide) rfl ?_
  refine z_aload_n (pc := 153) hC 4 dL_law_153 rfl rfl z_isr_r ?_
  refine z_aload_n (pc := 154) hC 2 dL_law_154 rfl rfl z_isr_r ?_
  refine z_iload (pc := 155) hC 1 dL_law_155 rfl ?_
  refine z_iconst (pc := 157) (v := 1) hC dL_law_157 rfl ?_
  refine z_iadd (pc := 158) hC dL_law_158 ?_
  refine z_scr (pc := 159) hC hx hbs hA (i + 1) (nI_add i 1) (by omega) (by omega) dL_law_159 ?_
  refine z_callV (pc := 160) (st := []) hC [.int (xs (i + 1))] (kR6_add C.2.1 g N I1 P1 J1 hmd (xs (i + 1))) rfl (z_lt hC (by decide)) rfl zkX6_add zm_4_127 ⟨rfl, rfl⟩ rfl rfl hRm ⟨Nat.le_of_ble_eq_true rfl, Nat.le_of_ble_eq_true rfl⟩ (Nat.le_of_ble_eq_true rfl) ⟨(by show kc + 2 + 0 ≤ 601024; omega), (by show ks + 12 + 0 ≤ 7293034; omega)⟩ dL_law_160 ?_
  intro w9 I2 P2 J2 hw
  obtain ⟨b9, hwb⟩ := hw.1
  subst hwb
  obtain ⟨ht, hout, σ2, hLI⟩ := (zLq_add hI hv hw).go
  show zJ C g N 7 (kc + 2) (ks + 12) I2 P2 J2 163 [(5, .int c), (4, .int (nI i)), (0, .ref b), (1, .ref (g.1 80)), (2, .ref (g.1 95)), (3, .ref (g.1 110))] [.int b9]
  refine z_istore (pc := 163) (lv' := [(6, .int b9), (5, .int c), (4, .int (nI i)), (0, .ref b), (1, .ref (g.1 80)), (2, .ref (g.1 95)), (3, .ref (g.1 110))]) hC dL_law_163 (by decide) rfl ?_
  refine z_aload_n (pc := 165) hC 5 dL_law_165 rfl rfl z_isr_r ?_
  refine z_cV (pc := 166) (st := []) hC [] (kX6_thrown C.2.1 g N I2 P2 J2 c ht) rfl (z_lt hC (by decide)) rfl zkX6_thrown zm_4_123 ⟨rfl, rfl⟩ rfl rfl hRm ⟨Nat.le_of_ble_eq_true rfl, Nat.le_of_ble_eq_true rfl⟩ (Nat.le_of_ble_eq_true rfl) ⟨(by show kc + 2 + 0 ≤ 601024; omega), (by show ks + 12 + 0 ≤ 7293034; omega)⟩ dL_law_166 ?_
  refine z_iload (pc := 169) hC 1 dL_law_169 rfl ?_
  refine z_icmp_eq (pc := 171) (tgt := 176) hC dL_law_171 (by decide) (fun h171 => ?_) (fun h171 => ?_)
  · skip
    refine z_iload (pc := 176) hC 1 dL_law_176 rfl ?_
    refine z_if_ne (pc := 178) (tgt := 193) hC dL_law_178 (by decide) (fun h178 => ?_) (fun h178 => ?_)
    · skip
      refine z_goto (pc := 193) (tgt := 1334) hC dL_law_193 (by decide) ?_
      refine z_lvs (lv' := [(4, .int (nI i)), (0, .ref b), (1, .ref (g.1 80)), (2, .ref (g.1 95)), (3, .ref (g.1 110))]) [2, 3, 4, 5, 6] rfl ?_
      refine z_widen (k := kc + 50) (n := ks + 1000) (by omega) (by omega) ?_
      exact hkk g.1 N σ2 τ I2 P2 J2 hG (fun _ _ => rfl) (Nat.le_refl _) hLI
    · skip
      have hc0 : c = 0 := h178
      refine z_aload_n (pc := 181) hC 6 dL_law_181 rfl rfl z_isr_r ?_
      refine z_iconst (pc := 182) (v := 0) hC dL_law_182 rfl ?_
      refine z_laN (pc := 183) hC 0 (x := J2 110 0) rfl (z_lt hC (by decide)) rfl (by decide) (by decide) rfl dL_law_183 ?_
      refine z_iload (pc := 184) hC 0 dL_law_184 rfl ?_
      refine z_i2l (pc := 186) hC dL_law_186 ?_
      refine z_lcmp (pc := 187) hC dL_law_187 ?_
      refine z_if_eq (pc := 188) (tgt := 193) hC dL_law_188 (by decide) (fun h188 => ?_) (fun h188 => ?_)
      · skip
        refine z_goto (pc := 193) (tgt := 1334) hC dL_law_193 (by decide) ?_
        refine z_lvs (lv' := [(4, .int (nI i)), (0, .ref b), (1, .ref (g.1 80)), (2, .ref (g.1 95)), (3, .ref (g.1 110))]) [2, 3, 4, 5, 6] rfl ?_
        refine z_widen (k := kc + 50) (n := ks + 1000) (by omega) (by omega) ?_
        exact hkk g.1 N σ2 τ I2 P2 J2 hG (fun _ _ => rfl) (Nat.le_refl _) hLI
      · skip
        exact absurd (by rw [hout hc0]; exact lg_cmp_self _) h188
  · skip
    exact absurd rfl h171
theorem zLw_remove {C : zC} {g : zG} {sa : Nat → Nat} {N b L i kc ks : Nat} {xs : Nat → Int32} {σ : zS} {τ : Nat → zS} {I : Nat → Nat → Int32} {P : Nat → Nat → Option Nat} {J : Nat → Nat → Int64} (hLC : zLC C g sa N b L xs) (hi : i + 4 ≤ L) (hcb : kc + 50 ≤ 601024) (hsb : ks + 1000 ≤ 7293034) (hI : zLI N σ τ I P) (hkk : zLK C g N kc ks b i) : zJ C g N 7 kc ks I P J 196 [(4, .int (nI i)), (0, .ref b), (1, .ref (g.1 80)), (2, .ref (g.1 95)), (3, .ref (g.1 110))] [] := by
  obtain ⟨hC, hX, hNC, hAO, hst, hRm, hx, hbs, hA, hL⟩ := id hLC
  have hG := hC.2.2.2.2.2.2
  refine z_aload_n (pc := 196) hC 2 dL_law_196 rfl rfl z_isr_r ?_
  refine z_aload_n (pc := 197) hC 1 dL_law_197 rfl rfl z_isr_r ?_
  refine z_iload (pc := 198) hC 0 dL_law_198 rfl ?_
  refine z_iconst (pc := 200) (v := 1) hC dL_law_200 rfl ?_
  refine z_iadd (pc := 201) hC dL_law_201 ?_
  refine z_scr (pc := 202) hC hx hbs hA (i + 1) (nI_add i 1) (by omega) (by omega) dL_law_202 ?_
  refine z_aload_n (pc := 203) hC 4 dL_law_203 rfl rfl z_isr_r ?_
  refine z_callH (pc := 204) (st := []) hC hX hNC [.ref (g.1 80), .int (xs (i + 1)), .ref (g.1 110)] (kL_remove C.2.1 hst g sa N I P J hI.1  (xs (i + 1))) zhL_remove zm_3_56 ⟨rfl, rfl⟩ rfl rfl hRm ⟨Nat.le_of_ble_eq_true rfl, Nat.le_of_ble_eq_true rfl⟩ (Nat.le_of_ble_eq_true rfl) ⟨(by show kc + 2 ≤ 601024; omega), (by show ks + 12 ≤ 7293034; omega)⟩ dL_law_204 (fun v I1 P1 J1 hv => ?_)
  obtain ⟨c, hvc⟩ := zLV_int hv
  subst hvc
  have hmd : zMd σ I1 := by
    rcases hv with ⟨-, r, K1, -, hp⟩ | ⟨i9, k9, -, -, hp⟩
    · exact hI.md hp.2
    · exact hI.md hp.2.2
  show zJ C g N 7 (kc + 2) (ks + 12) I1 P1 J1 207 [(4, .int (nI i)), (0, .ref b), (1, .ref (g.1 80)), (2, .ref (g.1 95)), (3, .ref (g.1 110))] [.int c]
  refine z_istore (pc := 207) (lv' := [(5, .int c), (4, .int (nI i)), (0, .ref b), (1, .ref (g.1 80)), (2, .ref (g.1 95)), (3, .ref (g.1 110))]) hC dL_law_207 (by decide) rfl ?_
  refine z_aload_n (pc := 209) hC 4 dL_law_209 rfl rfl z_isr_r ?_
  refine z_aload_n (pc := 210) hC 2 dL_law_210 rfl rfl z_isr_r ?_
  refine z_iload (pc := 211) hC 1 dL_law_211 rfl ?_
  refine z_iconst (pc := 213) (v := 1) hC dL_law_213 rfl ?_
  refine z_iadd (pc := 214) hC dL_law_214 ?_
  refine z_scr (pc := 215) hC hx hbs hA (i + 1) (nI_add i 1) (by omega) (by omega) dL_law_215 ?_
  refine z_callV (pc := 216) (st := []) hC [.int (xs (i + 1))] (kR6_remove C.2.1 g N I1 P1 J1 hmd (xs (i + 1))) rfl (z_lt hC (by decide)) rfl zkX6_remove zm_4_138 ⟨rfl, rfl⟩ rfl rfl hRm ⟨Nat.le_of_ble_eq_true rfl, Nat.le_of_ble_eq_true rfl⟩ (Nat.le_of_ble_eq_true rfl) ⟨(by show kc + 2 + 0 ≤ 601024; omega), (by show ks + 12 + 0 ≤ 7293034; omega)⟩ dL_law_216 ?_
  intro w9 I2 P2 J2 hw
  obtain ⟨b9, hwb⟩ := hw.1
  subst hwb
  obtain ⟨ht, hout, σ2, hLI⟩ := (zLq_remove hI hv hw).go
  show zJ C g N 7 (kc + 2) (ks + 12) I2 P2 J2 219 [(5, .int c), (4, .int (nI i)), (0, .ref b), (1, .ref (g.1 80)), (2, .ref (g.1 95)), (3, .ref (g.1 110))] [.int b9]
  refine z_istore (pc := 219) (lv' := [(6, .int b9), (5, .int c), (4, .int (nI i)), (0, .ref b), (1, .ref (g.1 80)), (2, .ref (g.1 95)), (3, .ref (g.1 110))]) hC dL_law_219 (by decide) rfl ?_
  refine z_aload_n (pc := 221) hC 5 dL_law_221 rfl rfl z_isr_r ?_
  refine z_cV (pc := 222) (st := []) hC [] (kX6_thrown C.2.1 g N I2 P2 J2 c ht) rfl (z_lt hC (by decide)) rfl zkX6_thrown zm_4_123 ⟨rfl, rfl⟩ rfl rfl hRm ⟨Nat.le_of_ble_eq_true rfl, Nat.le_of_ble_eq_true rfl⟩ (Nat.le_of_ble_eq_true rfl) ⟨(by show kc + 2 + 0 ≤ 601024; omega), (by show ks + 12 + 0 ≤ 7293034; omega)⟩ dL_law_222 ?_
  refine z_iload (pc := 225) hC 1 dL_law_225 rfl ?_
  refine z_icmp_eq (pc := 227) (tgt := 232) hC dL_law_227 (by decide) (fun h227 => ?_) (fun h227 => ?_)
  · skip
    refine z_iload (pc := 232) hC 1 dL_law_232 rfl ?_
    refine z_if_ne (pc := 234) (tgt := 249) hC dL_law_234 (by decide) (fun h234 => ?_) (fun h234 => ?_)
    · skip
      refine z_goto (pc := 249) (tgt := 1334) hC dL_law_249 (by decide) ?_
      refine z_lvs (lv' := [(4, .int (nI i)), (0, .ref b), (1, .ref (g.1 80)), (2, .ref (g.1 95)), (3, .ref (g.1 110))]) [2, 3, 4, 5, 6] rfl ?_
      refine z_widen (k := kc + 50) (n := ks + 1000) (by omega) (by omega) ?_
      exact hkk g.1 N σ2 τ I2 P2 J2 hG (fun _ _ => rfl) (Nat.le_refl _) hLI
    · skip
      have hc0 : c = 0 := h234
      refine z_aload_n (pc := 237) hC 6 dL_law_237 rfl rfl z_isr_r ?_
      refine z_iconst (pc := 238) (v := 0) hC dL_law_238 rfl ?_
      refine z_laN (pc := 239) hC 0 (x := J2 110 0) rfl (z_lt hC (by decide)) rfl (by decide) (by decide) rfl dL_law_239 ?_
      refine z_iload (pc := 240) hC 0 dL_law_240 rfl ?_
      refine z_i2l (pc := 242) hC dL_law_242 ?_
      refine z_lcmp (pc := 243) hC dL_law_243 ?_
      refine z_if_eq (pc := 244) (tgt := 249) hC dL_law_244 (by decide) (fun h244 => ?_) (fun h244 => ?_)
      · skip
        refine z_goto (pc := 249) (tgt := 1334) hC dL_law_249 (by decide) ?_
        refine z_lvs (lv' := [(4, .int (nI i)), (0, .ref b), (1, .ref (g.1 80)), (2, .ref (g.1 95)), (3, .ref (g.1 110))]) [2, 3, 4, 5, 6] rfl ?_
        refine z_widen (k := kc + 50) (n := ks + 1000) (by omega) (by omega) ?_
        exact hkk g.1 N σ2 τ I2 P2 J2 hG (fun _ _ => rfl) (Nat.le_refl _) hLI
      · skip
        exact absurd (by rw [hout hc0]; exact lg_cmp_self _) h244
  · skip
    exact absurd rfl h227
theorem zLw_boxes {C : zC} {g : zG} {sa : Nat → Nat} {N b L i kc ks : Nat} {xs : Nat → Int32} {σ : zS} {τ : Nat → zS} {I : Nat → Nat → Int32} {P : Nat → Nat → Option Nat} {J : Nat → Nat → Int64} (hLC : zLC C g sa N b L xs) (hi : i + 4 ≤ L) (hcb : kc + 50 ≤ 601024) (hsb : ks + 1000 ≤ 7293034) (hI : zLI N σ τ I P) (hkk : zLK C g N kc ks b i) : zJ C g N 7 kc ks I P J 252 [(4, .int (nI i)), (0, .ref b), (1, .ref (g.1 80)), (2, .ref (g.1 95)), (3, .ref (g.1 110))] [] := by
  obtain ⟨hC, hX, hNC, hAO, hst, hRm, hx, hbs, hA, hL⟩ := id hLC
  have hG := hC.2.2.2.2.2.2
  refine z_aload_n (pc := 252) hC 2 dL_law_252 rfl rfl z_isr_r ?_
  refine z_cV (pc := 253) (st := []) hC [] (kX5_boxes C.2.1 g N I P J σ hI.1.1) rfl (z_lt hC (by decide)) rfl zkX5_boxes zm_1_223 ⟨rfl, rfl⟩ rfl rfl hRm ⟨Nat.le_of_ble_eq_true rfl, Nat.le_of_ble_eq_true rfl⟩ (Nat.le_of_ble_eq_true rfl) ⟨(by show kc + 0 ≤ 601024; omega), (by show ks + 0 ≤ 7293034; omega)⟩ dL_law_253 ?_
  refine z_aload_n (pc := 256) hC 3 dL_law_256 rfl rfl z_isr_r ?_
  refine z_cV (pc := 257) (st := [.int (sCnt (sEx σ) 40)]) hC [] (kX6_boxes C.2.1 g N I P J hI.2.1) rfl (z_lt hC (by decide)) rfl zkX6_boxes zm_4_142 ⟨rfl, rfl⟩ rfl rfl hRm ⟨Nat.le_of_ble_eq_true rfl, Nat.le_of_ble_eq_true rfl⟩ (Nat.le_of_ble_eq_true rfl) ⟨(by show kc + 0 ≤ 601024; omega), (by show ks + 0 ≤ 7293034; omega)⟩ dL_law_257 ?_
  refine z_icmp_eq (pc := 260) (tgt := 1334) hC dL_law_260 (by decide) (fun h260 => ?_) (fun h260 => ?_)
  · skip
    refine z_widen (k := kc + 50) (n := ks + 1000) (by omega) (by omega) ?_
    exact hkk g.1 N σ τ (z_u I 95 3 0) P J hG (fun _ _ => rfl) (Nat.le_refl _) (zLI_k hI ⟨fun q j hq => z_u_a _ _ (by omega), fun j => ⟨z_u_a _ _ (by decide), z_u_a _ _ (by decide)⟩, fun _ => rfl⟩ (zCl_95 (fun q j hq => z_u_a _ _ (by omega)) hI.1) (hI.2.1.u (by decide)))
  · skip
    exact absurd rfl h260
theorem zLw_parent {C : zC} {g : zG} {sa : Nat → Nat} {N b L i kc ks : Nat} {xs : Nat → Int32} {σ : zS} {τ : Nat → zS} {I : Nat → Nat → Int32} {P : Nat → Nat → Option Nat} {J : Nat → Nat → Int64} (hLC : zLC C g sa N b L xs) (hi : i + 4 ≤ L) (hcb : kc + 50 ≤ 601024) (hsb : ks + 1000 ≤ 7293034) (hI : zLI N σ τ I P) (hkk : zLK C g N kc ks b i) : zJ C g N 7 kc ks I P J 265 [(4, .int (nI i)), (0, .ref b), (1, .ref (g.1 80)), (2, .ref (g.1 95)), (3, .ref (g.1 110))] [] := by
  obtain ⟨hC, hX, hNC, hAO, hst, hRm, hx, hbs, hA, hL⟩ := id hLC
  have hG := hC.2.2.2.2.2.2
  refine z_aload_n (pc := 265) hC 2 dL_law_265 rfl rfl z_isr_r ?_
  refine z_aload_n (pc := 266) hC 1 dL_law_266 rfl rfl z_isr_r ?_
  refine z_iload (pc := 267) hC 0 dL_law_267 rfl ?_
  refine z_iconst (pc := 269) (v := 1) hC dL_law_269 rfl ?_
  refine z_iadd (pc := 270) hC dL_law_270 ?_
  refine z_scr (pc := 271) hC hx hbs hA (i + 1) (nI_add i 1) (by omega) (by omega) dL_law_271 ?_
  refine z_aload_n (pc := 272) hC 4 dL_law_272 rfl rfl z_isr_r ?_
  refine z_callH (pc := 273) (st := []) hC hX hNC [.ref (g.1 80), .int (xs (i + 1)), .ref (g.1 110)] (kL_parent C.2.1 hst g sa N I P J hI.1  (xs (i + 1))) zhL_parent zm_3_85 ⟨rfl, rfl⟩ rfl rfl hRm ⟨Nat.le_of_ble_eq_true rfl, Nat.le_of_ble_eq_true rfl⟩ (Nat.le_of_ble_eq_true rfl) ⟨(by show kc + 1 ≤ 601024; omega), (by show ks + 6 ≤ 7293034; omega)⟩ dL_law_273 (fun v I1 P1 J1 hv => ?_)
  obtain ⟨c, hvc⟩ := zLV_int hv
  subst hvc
  have hmd : zMd σ I1 := by
    rcases hv with ⟨-, r, K1, -, hp⟩ | ⟨i9, k9, -, -, hp⟩
    · exact hI.md hp.2.2
    · exact hI.md hp.2.2
  show zJ C g N 7 (kc + 1) (ks + 6) I1 P1 J1 276 [(4, .int (nI i)), (0, .ref b), (1, .ref (g.1 80)), (2, .ref (g.1 95)), (3, .ref (g.1 110))] [.int c]
  refine z_istore (pc := 276) (lv' := [(5, .int c), (4, .int (nI i)), (0, .ref b), (1, .ref (g.1 80)), (2, .ref (g.1 95)), (3, .ref (g.1 110))]) hC dL_law_276 (by decide) rfl ?_
  refine z_aload_n (pc := 278) hC 4 dL_law_278 rfl rfl z_isr_r ?_
  refine z_aload_n (pc := 279) hC 2 dL_law_279 rfl rfl z_isr_r ?_
  refine z_iload (pc := 280) hC 1 dL_law_280 rfl ?_
  refine z_iconst (pc := 282) (v := 1) hC dL_law_282 rfl ?_
  refine z_iadd (pc := 283) hC dL_law_283 ?_
  refine z_scr (pc := 284) hC hx hbs hA (i + 1) (nI_add i 1) (by omega) (by omega) dL_law_284 ?_
  refine z_callV (pc := 285) (st := []) hC [.int (xs (i + 1))] (kR6_parent C.2.1 g N I1 P1 J1 hmd (xs (i + 1))) rfl (z_lt hC (by decide)) rfl zkX6_parent zm_4_146 ⟨rfl, rfl⟩ rfl rfl hRm ⟨Nat.le_of_ble_eq_true rfl, Nat.le_of_ble_eq_true rfl⟩ (Nat.le_of_ble_eq_true rfl) ⟨(by show kc + 1 + 0 ≤ 601024; omega), (by show ks + 6 + 0 ≤ 7293034; omega)⟩ dL_law_285 ?_
  intro w9 I2 P2 J2 hw
  obtain ⟨b9, hwb⟩ := hw.1
  subst hwb
  obtain ⟨ht, hout, σ2, hLI⟩ := (zLq_pc hI hv hw).go
  show zJ C g N 7 (kc + 1) (ks + 6) I2 P2 J2 288 [(5, .int c), (4, .int (nI i)), (0, .ref b), (1, .ref (g.1 80)), (2, .ref (g.1 95)), (3, .ref (g.1 110))] [.int b9]
  refine z_istore (pc := 288) (lv' := [(6, .int b9), (5, .int c), (4, .int (nI i)), (0, .ref b), (1, .ref (g.1 80)), (2, .ref (g.1 95)), (3, .ref (g.1 110))]) hC dL_law_288 (by decide) rfl ?_
  refine z_aload_n (pc := 290) hC 5 dL_law_290 rfl rfl z_isr_r ?_
  refine z_cV (pc := 291) (st := []) hC [] (kX6_thrown C.2.1 g N I2 P2 J2 c ht) rfl (z_lt hC (by decide)) rfl zkX6_thrown zm_4_123 ⟨rfl, rfl⟩ rfl rfl hRm ⟨Nat.le_of_ble_eq_true rfl, Nat.le_of_ble_eq_true rfl⟩ (Nat.le_of_ble_eq_true rfl) ⟨(by show kc + 1 + 0 ≤ 601024; omega), (by show ks + 6 + 0 ≤ 7293034; omega)⟩ dL_law_291 ?_
  refine z_iload (pc := 294) hC 1 dL_law_294 rfl ?_
  refine z_icmp_eq (pc := 296) (tgt := 301) hC dL_law_296 (by decide) (fun h296 => ?_) (fun h296 => ?_)
  · skip
    refine z_iload (pc := 301) hC 1 dL_law_301 rfl ?_
    refine z_if_ne (pc := 303) (tgt := 318) hC dL_law_303 (by decide) (fun h303 => ?_) (fun h303 => ?_)
    · skip
      refine z_goto (pc := 318) (tgt := 1334) hC dL_law_318 (by decide) ?_
      refine z_lvs (lv' := [(4, .int (nI i)), (0, .ref b), (1, .ref (g.1 80)), (2, .ref (g.1 95)), (3, .ref (g.1 110))]) [2, 3, 4, 5, 6] rfl ?_
      refine z_widen (k := kc + 50) (n := ks + 1000) (by omega) (by omega) ?_
      exact hkk g.1 N σ2 τ I2 P2 J2 hG (fun _ _ => rfl) (Nat.le_refl _) hLI
    · skip
      have hc0 : c = 0 := h303
      refine z_aload_n (pc := 306) hC 6 dL_law_306 rfl rfl z_isr_r ?_
      refine z_iconst (pc := 307) (v := 0) hC dL_law_307 rfl ?_
      refine z_laN (pc := 308) hC 0 (x := J2 110 0) rfl (z_lt hC (by decide)) rfl (by decide) (by decide) rfl dL_law_308 ?_
      refine z_iload (pc := 309) hC 0 dL_law_309 rfl ?_
      refine z_i2l (pc := 311) hC dL_law_311 ?_
      refine z_lcmp (pc := 312) hC dL_law_312 ?_
      refine z_if_eq (pc := 313) (tgt := 318) hC dL_law_313 (by decide) (fun h313 => ?_) (fun h313 => ?_)
      · skip
        refine z_goto (pc := 318) (tgt := 1334) hC dL_law_318 (by decide) ?_
        refine z_lvs (lv' := [(4, .int (nI i)), (0, .ref b), (1, .ref (g.1 80)), (2, .ref (g.1 95)), (3, .ref (g.1 110))]) [2, 3, 4, 5, 6] rfl ?_
        refine z_widen (k := kc + 50) (n := ks + 1000) (by omega) (by omega) ?_
        exact hkk g.1 N σ2 τ I2 P2 J2 hG (fun _ _ => rfl) (Nat.le_refl _) hLI
      · skip
        exact absurd (by rw [hout hc0]; exact lg_cmp_self _) h313
  · skip
    exact absurd rfl h296
theorem zLw_child {C : zC} {g : zG} {sa : Nat → Nat} {N b L i kc ks : Nat} {xs : Nat → Int32} {σ : zS} {τ : Nat → zS} {I : Nat → Nat → Int32} {P : Nat → Nat → Option Nat} {J : Nat → Nat → Int64} (hLC : zLC C g sa N b L xs) (hi : i + 4 ≤ L) (hcb : kc + 50 ≤ 601024) (hsb : ks + 1000 ≤ 7293034) (hI : zLI N σ τ I P) (hkk : zLK C g N kc ks b i) : zJ C g N 7 kc ks I P J 321 [(4, .int (nI i)), (0, .ref b), (1, .ref (g.1 80)), (2, .ref (g.1 95)), (3, .ref (g.1 110))] [] := by
  obtain ⟨hC, hX, hNC, hAO, hst, hRm, hx, hbs, hA, hL⟩ := id hLC
  have hG := hC.2.2.2.2.2.2
  refine z_aload_n (pc := 321) hC 2 dL_law_321 rfl rfl z_isr_r ?_
  refine z_aload_n (pc := 322) hC 1 dL_law_322 rfl rfl z_isr_r ?_
  refine z_iload (pc := 323) hC 0 dL_law_323 rfl ?_
  refine z_iconst (pc := 325) (v := 1) hC dL_law_325 rfl ?_
  refine z_iadd (pc := 326) hC dL_law_326 ?_
  refine z_scr (pc := 327) hC hx hbs hA (i + 1) (nI_add i 1) (by omega) (by omega) dL_law_327 ?_
  refine z_aload_n (pc := 328) hC 1 dL_law_328 rfl rfl z_isr_r ?_
  refine z_iload (pc := 329) hC 0 dL_law_329 rfl ?_
  refine z_iconst (pc := 331) (v := 2) hC dL_law_331 rfl ?_
  refine z_iadd (pc := 332) hC dL_law_332 ?_
  refine z_scr (pc := 333) hC hx hbs hA (i + 2) (nI_add i 2) (by omega) (by omega) dL_law_333 ?_
  refine z_aload_n (pc := 334) hC 4 dL_law_334 rfl rfl z_isr_r ?_
  refine z_callH (pc := 335) (st := []) hC hX hNC [.ref (g.1 80), .int (xs (i + 1)), .int (xs (i + 2)), .ref (g.1 110)] (kL_child C.2.1 hst g sa N I P J hI.1  (xs (i + 1)) (xs (i + 2))) zhL_child zm_3_96 ⟨rfl, rfl⟩ rfl rfl hRm ⟨Nat.le_of_ble_eq_true rfl, Nat.le_of_ble_eq_true rfl⟩ (Nat.le_of_ble_eq_true rfl) ⟨(by show kc + 1 ≤ 601024; omega), (by show ks + 6 ≤ 7293034; omega)⟩ dL_law_335 (fun v I1 P1 J1 hv => ?_)
  obtain ⟨c, hvc⟩ := zLV_int hv
  subst hvc
  have hmd : zMd σ I1 := by
    rcases hv with ⟨-, r, K1, -, hp⟩ | ⟨i9, k9, -, -, hp⟩
    · exact hI.md hp.2.2
    · exact hI.md hp.2.2
  show zJ C g N 7 (kc + 1) (ks + 6) I1 P1 J1 338 [(4, .int (nI i)), (0, .ref b), (1, .ref (g.1 80)), (2, .ref (g.1 95)), (3, .ref (g.1 110))] [.int c]
  refine z_istore (pc := 338) (lv' := [(5, .int c), (4, .int (nI i)), (0, .ref b), (1, .ref (g.1 80)), (2, .ref (g.1 95)), (3, .ref (g.1 110))]) hC dL_law_338 (by decide) rfl ?_
  refine z_aload_n (pc := 340) hC 4 dL_law_340 rfl rfl z_isr_r ?_
  refine z_aload_n (pc := 341) hC 2 dL_law_341 rfl rfl z_isr_r ?_
  refine z_iload (pc := 342) hC 1 dL_law_342 rfl ?_
  refine z_iconst (pc := 344) (v := 1) hC dL_law_344 rfl ?_
  refine z_iadd (pc := 345) hC dL_law_345 ?_
  refine z_scr (pc := 346) hC hx hbs hA (i + 1) (nI_add i 1) (by omega) (by omega) dL_law_346 ?_
  refine z_aload_n (pc := 347) hC 2 dL_law_347 rfl rfl z_isr_r ?_
  refine z_iload (pc := 348) hC 1 dL_law_348 rfl ?_
  refine z_iconst (pc := 350) (v := 2) hC dL_law_350 rfl ?_
  refine z_iadd (pc := 351) hC dL_law_351 ?_
  refine z_scr (pc := 352) hC hx hbs hA (i + 2) (nI_add i 2) (by omega) (by omega) dL_law_352 ?_
  refine z_callV (pc := 353) (st := []) hC [.int (xs (i + 1)), .int (xs (i + 2))] (kR6_child C.2.1 g N I1 P1 J1 hmd (xs (i + 1)) (xs (i + 2))) rfl (z_lt hC (by decide)) rfl zkX6_child zm_4_150 ⟨rfl, rfl⟩ rfl rfl hRm ⟨Nat.le_of_ble_eq_true rfl, Nat.le_of_ble_eq_true rfl⟩ (Nat.le_of_ble_eq_true rfl) ⟨(by show kc + 1 + 0 ≤ 601024; omega), (by show ks + 6 + 0 ≤ 7293034; omega)⟩ dL_law_353 ?_
  intro w9 I2 P2 J2 hw
  obtain ⟨b9, hwb⟩ := hw.1
  subst hwb
  obtain ⟨ht, hout, σ2, hLI⟩ := (zLq_pc hI hv hw).go
  show zJ C g N 7 (kc + 1) (ks + 6) I2 P2 J2 356 [(5, .int c), (4, .int (nI i)), (0, .ref b), (1, .ref (g.1 80)), (2, .ref (g.1 95)), (3, .ref (g.1 110))] [.int b9]
  refine z_istore (pc := 356) (lv' := [(6, .int b9), (5, .int c), (4, .int (nI i)), (0, .ref b), (1, .ref (g.1 80)), (2, .ref (g.1 95)), (3, .ref (g.1 110))]) hC dL_law_356 (by decide) rfl ?_
  refine z_aload_n (pc := 358) hC 5 dL_law_358 rfl rfl z_isr_r ?_
  refine z_cV (pc := 359) (st := []) hC [] (kX6_thrown C.2.1 g N I2 P2 J2 c ht) rfl (z_lt hC (by decide)) rfl zkX6_thrown zm_4_123 ⟨rfl, rfl⟩ rfl rfl hRm ⟨Nat.le_of_ble_eq_true rfl, Nat.le_of_ble_eq_true rfl⟩ (Nat.le_of_ble_eq_true rfl) ⟨(by show kc + 1 + 0 ≤ 601024; omega), (by show ks + 6 + 0 ≤ 7293034; omega)⟩ dL_law_359 ?_
  refine z_iload (pc := 362) hC 1 dL_law_362 rfl ?_
  refine z_icmp_eq (pc := 364) (tgt := 369) hC dL_law_364 (by decide) (fun h364 => ?_) (fun h364 => ?_)
  · skip
    refine z_iload (pc := 369) hC 1 dL_law_369 rfl ?_
    refine z_if_ne (pc := 371) (tgt := 386) hC dL_law_371 (by decide) (fun h371 => ?_) (fun h371 => ?_)
    · skip
      refine z_goto (pc := 386) (tgt := 1334) hC dL_law_386 (by decide) ?_
      refine z_lvs (lv' := [(4, .int (nI i)), (0, .ref b), (1, .ref (g.1 80)), (2, .ref (g.1 95)), (3, .ref (g.1 110))]) [2, 3, 4, 5, 6] rfl ?_
      refine z_widen (k := kc + 50) (n := ks + 1000) (by omega) (by omega) ?_
      exact hkk g.1 N σ2 τ I2 P2 J2 hG (fun _ _ => rfl) (Nat.le_refl _) hLI
    · skip
      have hc0 : c = 0 := h371
      refine z_aload_n (pc := 374) hC 6 dL_law_374 rfl rfl z_isr_r ?_
      refine z_iconst (pc := 375) (v := 0) hC dL_law_375 rfl ?_
      refine z_laN (pc := 376) hC 0 (x := J2 110 0) rfl (z_lt hC (by decide)) rfl (by decide) (by decide) rfl dL_law_376 ?_
      refine z_iload (pc := 377) hC 0 dL_law_377 rfl ?_
      refine z_i2l (pc := 379) hC dL_law_379 ?_
      refine z_lcmp (pc := 380) hC dL_law_380 ?_
      refine z_if_eq (pc := 381) (tgt := 386) hC dL_law_381 (by decide) (fun h381 => ?_) (fun h381 => ?_)
      · skip
        refine z_goto (pc := 386) (tgt := 1334) hC dL_law_386 (by decide) ?_
        refine z_lvs (lv' := [(4, .int (nI i)), (0, .ref b), (1, .ref (g.1 80)), (2, .ref (g.1 95)), (3, .ref (g.1 110))]) [2, 3, 4, 5, 6] rfl ?_
        refine z_widen (k := kc + 50) (n := ks + 1000) (by omega) (by omega) ?_
        exact hkk g.1 N σ2 τ I2 P2 J2 hG (fun _ _ => rfl) (Nat.le_refl _) hLI
      · skip
        exact absurd (by rw [hout hc0]; exact lg_cmp_self _) h381
  · skip
    exact absurd rfl h364
theorem zLw_set {C : zC} {g : zG} {sa : Nat → Nat} {N b L i kc ks : Nat} {xs : Nat → Int32} {σ : zS} {τ : Nat → zS} {I : Nat → Nat → Int32} {P : Nat → Nat → Option Nat} {J : Nat → Nat → Int64} (hLC : zLC C g sa N b L xs) (hi : i + 4 ≤ L) (hcb : kc + 50 ≤ 601024) (hsb : ks + 1000 ≤ 7293034) (hI : zLI N σ τ I P) (hkk : zLK C g N kc ks b i) : zJ C g N 7 kc ks I P J 389 [(4, .int (nI i)), (0, .ref b), (1, .ref (g.1 80)), (2, .ref (g.1 95)), (3, .ref (g.1 110))] [] := by
  obtain ⟨hC, hX, hNC, hAO, hst, hRm, hx, hbs, hA, hL⟩ := id hLC
  have hG := hC.2.2.2.2.2.2
  refine z_aload_n (pc := 389) hC 2 dL_law_389 rfl rfl z_isr_r ?_
  refine z_aload_n (pc := 390) hC 1 dL_law_390 rfl rfl z_isr_r ?_
  refine z_iload (pc := 391) hC 0 dL_law_391 rfl ?_
  refine z_iconst (pc := 393) (v := 1) hC dL_law_393 rfl ?_
  refine z_iadd (pc := 394) hC dL_law_394 ?_
  refine z_scr (pc := 395) hC hx hbs hA (i + 1) (nI_add i 1) (by omega) (by omega) dL_law_395 ?_
  refine z_aload_n (pc := 396) hC 1 dL_law_396 rfl rfl z_isr_r ?_
  refine z_iload (pc := 397) hC 0 dL_law_397 rfl ?_
  refine z_iconst (pc := 399) (v := 2) hC dL_law_399 rfl ?_
  refine z_iadd (pc := 400) hC dL_law_400 ?_
  refine z_scr (pc := 401) hC hx hbs hA (i + 2) (nI_add i 2) (by omega) (by omega) dL_law_401 ?_
  refine z_aload_n (pc := 402) hC 1 dL_law_402 rfl rfl z_isr_r ?_
  refine z_iload (pc := 403) hC 0 dL_law_403 rfl ?_
  refine z_iconst (pc := 405) (v := 3) hC dL_law_405 rfl ?_
  refine z_iadd (pc := 406) hC dL_law_406 ?_
  refine z_scr (pc := 407) hC hx hbs hA (i + 3) (nI_add i 3) (by omega) (by omega) dL_law_407 ?_
  refine z_aload_n (pc := 408) hC 4 dL_law_408 rfl rfl z_isr_r ?_
  refine z_callH (pc := 409) (st := []) hC hX hNC [.ref (g.1 80), .int (xs (i + 1)), .int (xs (i + 2)), .int (xs (i + 3)), .ref (g.1 110)] (kL_set C.2.1 hst g sa N I P J hI.1  (xs (i + 1)) (xs (i + 2)) (xs (i + 3))) zhL_set zm_3_103 ⟨rfl, rfl⟩ rfl rfl hRm ⟨Nat.le_of_ble_eq_true rfl, Nat.le_of_ble_eq_true rfl⟩ (Nat.le_of_ble_eq_true rfl) ⟨(by show kc + 2 ≤ 601024; omega), (by show ks + 12 ≤ 7293034; omega)⟩ dL_law_409 (fun v I1 P1 J1 hv => ?_)
  obtain ⟨c, hvc⟩ := zLV_int hv
  subst hvc
  have hmd : zMd σ I1 := by
    rcases hv with ⟨-, r, K1, -, hp⟩ | ⟨i9, k9, -, -, hp⟩
    · exact hI.md hp.2
    · exact hI.md hp.2.2
  show zJ C g N 7 (kc + 2) (ks + 12) I1 P1 J1 412 [(4, .int (nI i)), (0, .ref b), (1, .ref (g.1 80)), (2, .ref (g.1 95)), (3, .ref (g.1 110))] [.int c]
  refine z_istore (pc := 412) (lv' := [(5, .int c), (4, .int (nI i)), (0, .ref b), (1, .ref (g.1 80)), (2, .ref (g.1 95)), (3, .ref (g.1 110))]) hC dL_law_412 (by decide) rfl ?_
  refine z_aload_n (pc := 414) hC 4 dL_law_414 rfl rfl z_isr_r ?_
  refine z_aload_n (pc := 415) hC 2 dL_law_415 rfl rfl z_isr_r ?_
  refine z_iload (pc := 416) hC 1 dL_law_416 rfl ?_
  refine z_iconst (pc := 418) (v := 1) hC dL_law_418 rfl ?_
  refine z_iadd (pc := 419) hC dL_law_419 ?_
  refine z_scr (pc := 420) hC hx hbs hA (i + 1) (nI_add i 1) (by omega) (by omega) dL_law_420 ?_
  refine z_aload_n (pc := 421) hC 2 dL_law_421 rfl rfl z_isr_r ?_
  refine z_iload (pc := 422) hC 1 dL_law_422 rfl ?_
  refine z_iconst (pc := 424) (v := 2) hC dL_law_424 rfl ?_
  refine z_iadd (pc := 425) hC dL_law_425 ?_
  refine z_scr (pc := 426) hC hx hbs hA (i + 2) (nI_add i 2) (by omega) (by omega) dL_law_426 ?_
  refine z_aload_n (pc := 427) hC 2 dL_law_427 rfl rfl z_isr_r ?_
  refine z_iload (pc := 428) hC 1 dL_law_428 rfl ?_
  refine z_iconst (pc := 430) (v := 3) hC dL_law_430 rfl ?_
  refine z_iadd (pc := 431) hC dL_law_431 ?_
  refine z_scr (pc := 432) hC hx hbs hA (i + 3) (nI_add i 3) (by omega) (by omega) dL_law_432 ?_
  refine z_callV (pc := 433) (st := []) hC [.int (xs (i + 1)), .int (xs (i + 2)), .int (xs (i + 3))] (kR6_set C.2.1 g N I1 P1 J1 hmd (xs (i + 1)) (xs (i + 2)) (xs (i + 3))) rfl (z_lt hC (by decide)) rfl zkX6_set zm_4_170 ⟨rfl, rfl⟩ rfl rfl hRm ⟨Nat.le_of_ble_eq_true rfl, Nat.le_of_ble_eq_true rfl⟩ (Nat.le_of_ble_eq_true rfl) ⟨(by show kc + 2 + 0 ≤ 601024; omega), (by show ks + 12 + 0 ≤ 7293034; omega)⟩ dL_law_433 ?_
  intro w9 I2 P2 J2 hw
  obtain ⟨b9, hwb⟩ := hw.1
  subst hwb
  obtain ⟨ht, hout, σ2, hLI⟩ := (zLq_set hI hv hw).go
  show zJ C g N 7 (kc + 2) (ks + 12) I2 P2 J2 436 [(5, .int c), (4, .int (nI i)), (0, .ref b), (1, .ref (g.1 80)), (2, .ref (g.1 95)), (3, .ref (g.1 110))] [.int b9]
  refine z_istore (pc := 436) (lv' := [(6, .int b9), (5, .int c), (4, .int (nI i)), (0, .ref b), (1, .ref (g.1 80)), (2, .ref (g.1 95)), (3, .ref (g.1 110))]) hC dL_law_436 (by decide) rfl ?_
  refine z_aload_n (pc := 438) hC 5 dL_law_438 rfl rfl z_isr_r ?_
  refine z_cV (pc := 439) (st := []) hC [] (kX6_thrown C.2.1 g N I2 P2 J2 c ht) rfl (z_lt hC (by decide)) rfl zkX6_thrown zm_4_123 ⟨rfl, rfl⟩ rfl rfl hRm ⟨Nat.le_of_ble_eq_true rfl, Nat.le_of_ble_eq_true rfl⟩ (Nat.le_of_ble_eq_true rfl) ⟨(by show kc + 2 + 0 ≤ 601024; omega), (by show ks + 12 + 0 ≤ 7293034; omega)⟩ dL_law_439 ?_
  refine z_iload (pc := 442) hC 1 dL_law_442 rfl ?_
  refine z_icmp_eq (pc := 444) (tgt := 449) hC dL_law_444 (by decide) (fun h444 => ?_) (fun h444 => ?_)
  · skip
    refine z_iload (pc := 449) hC 1 dL_law_449 rfl ?_
    refine z_if_ne (pc := 451) (tgt := 466) hC dL_law_451 (by decide) (fun h451 => ?_) (fun h451 => ?_)
    · skip
      refine z_goto (pc := 466) (tgt := 1334) hC dL_law_466 (by decide) ?_
      refine z_lvs (lv' := [(4, .int (nI i)), (0, .ref b), (1, .ref (g.1 80)), (2, .ref (g.1 95)), (3, .ref (g.1 110))]) [2, 3, 4, 5, 6] rfl ?_
      refine z_widen (k := kc + 50) (n := ks + 1000) (by omega) (by omega) ?_
      exact hkk g.1 N σ2 τ I2 P2 J2 hG (fun _ _ => rfl) (Nat.le_refl _) hLI
    · skip
      have hc0 : c = 0 := h451
      refine z_aload_n (pc := 454) hC 6 dL_law_454 rfl rfl z_isr_r ?_
      refine z_iconst (pc := 455) (v := 0) hC dL_law_455 rfl ?_
      refine z_laN (pc := 456) hC 0 (x := J2 110 0) rfl (z_lt hC (by decide)) rfl (by decide) (by decide) rfl dL_law_456 ?_
      refine z_iload (pc := 457) hC 0 dL_law_457 rfl ?_
      refine z_i2l (pc := 459) hC dL_law_459 ?_
      refine z_lcmp (pc := 460) hC dL_law_460 ?_
      refine z_if_eq (pc := 461) (tgt := 466) hC dL_law_461 (by decide) (fun h461 => ?_) (fun h461 => ?_)
      · skip
        refine z_goto (pc := 466) (tgt := 1334) hC dL_law_466 (by decide) ?_
        refine z_lvs (lv' := [(4, .int (nI i)), (0, .ref b), (1, .ref (g.1 80)), (2, .ref (g.1 95)), (3, .ref (g.1 110))]) [2, 3, 4, 5, 6] rfl ?_
        refine z_widen (k := kc + 50) (n := ks + 1000) (by omega) (by omega) ?_
        exact hkk g.1 N σ2 τ I2 P2 J2 hG (fun _ _ => rfl) (Nat.le_refl _) hLI
      · skip
        exact absurd (by rw [hout hc0]; exact lg_cmp_self _) h461
  · skip
    exact absurd rfl h444
theorem zLw_get {C : zC} {g : zG} {sa : Nat → Nat} {N b L i kc ks : Nat} {xs : Nat → Int32} {σ : zS} {τ : Nat → zS} {I : Nat → Nat → Int32} {P : Nat → Nat → Option Nat} {J : Nat → Nat → Int64} (hLC : zLC C g sa N b L xs) (hi : i + 4 ≤ L) (hcb : kc + 50 ≤ 601024) (hsb : ks + 1000 ≤ 7293034) (hI : zLI N σ τ I P) (hkk : zLK C g N kc ks b i) : zJ C g N 7 kc ks I P J 469 [(4, .int (nI i)), (0, .ref b), (1, .ref (g.1 80)), (2, .ref (g.1 95)), (3, .ref (g.1 110))] [] := by
  obtain ⟨hC, hX, hNC, hAO, hst, hRm, hx, hbs, hA, hL⟩ := id hLC
  have hG := hC.2.2.2.2.2.2
  refine z_aload_n (pc := 469) hC 2 dL_law_469 rfl rfl z_isr_r ?_
  refine z_aload_n (pc := 470) hC 1 dL_law_470 rfl rfl z_isr_r ?_
  refine z_iload (pc := 471) hC 0 dL_law_471 rfl ?_
  refine z_iconst (pc := 473) (v := 1) hC dL_law_473 rfl ?_
  refine z_iadd (pc := 474) hC dL_law_474 ?_
  refine z_scr (pc := 475) hC hx hbs hA (i + 1) (nI_add i 1) (by omega) (by omega) dL_law_475 ?_
  refine z_aload_n (pc := 476) hC 1 dL_law_476 rfl rfl z_isr_r ?_
  refine z_iload (pc := 477) hC 0 dL_law_477 rfl ?_
  refine z_iconst (pc := 479) (v := 2) hC dL_law_479 rfl ?_
  refine z_iadd (pc := 480) hC dL_law_480 ?_
  refine z_scr (pc := 481) hC hx hbs hA (i + 2) (nI_add i 2) (by omega) (by omega) dL_law_481 ?_
  refine z_aload_n (pc := 482) hC 4 dL_law_482 rfl rfl z_isr_r ?_
  refine z_callH (pc := 483) (st := []) hC hX hNC [.ref (g.1 80), .int (xs (i + 1)), .int (xs (i + 2)), .ref (g.1 110)] (kL_get C.2.1 hst g sa N I P J hI.1  (xs (i + 1)) (xs (i + 2))) zhL_get zm_3_124 ⟨rfl, rfl⟩ rfl rfl hRm ⟨Nat.le_of_ble_eq_true rfl, Nat.le_of_ble_eq_true rfl⟩ (Nat.le_of_ble_eq_true rfl) ⟨(by show kc + 2 ≤ 601024; omega), (by show ks + 12 ≤ 7293034; omega)⟩ dL_law_483 (fun v I1 P1 J1 hv => ?_)
  obtain ⟨c, hvc⟩ := zLV_int hv
  subst hvc
  have hmd : zMd σ I1 := by
    rcases hv with ⟨-, r, K1, -, hp⟩ | ⟨i9, k9, -, -, hp⟩
    · exact hI.md hp.2.2
    · exact hI.md hp.2.2
  show zJ C g N 7 (kc + 2) (ks + 12) I1 P1 J1 486 [(4, .int (nI i)), (0, .ref b), (1, .ref (g.1 80)), (2, .ref (g.1 95)), (3, .ref (g.1 110))] [.int c]
  refine z_istore (pc := 486) (lv' := [(5, .int c), (4, .int (nI i)), (0, .ref b), (1, .ref (g.1 80)), (2, .ref (g.1 95)), (3, .ref (g.1 110))]) hC dL_law_486 (by decide) rfl ?_
  refine z_aload_n (pc := 488) hC 4 dL_law_488 rfl rfl z_isr_r ?_
  refine z_aload_n (pc := 489) hC 2 dL_law_489 rfl rfl z_isr_r ?_
  refine z_iload (pc := 490) hC 1 dL_law_490 rfl ?_
  refine z_iconst (pc := 492) (v := 1) hC dL_law_492 rfl ?_
  refine z_iadd (pc := 493) hC dL_law_493 ?_
  refine z_scr (pc := 494) hC hx hbs hA (i + 1) (nI_add i 1) (by omega) (by omega) dL_law_494 ?_
  refine z_aload_n (pc := 495) hC 2 dL_law_495 rfl rfl z_isr_r ?_
  refine z_iload (pc := 496) hC 1 dL_law_496 rfl ?_
  refine z_iconst (pc := 498) (v := 2) hC dL_law_498 rfl ?_
  refine z_iadd (pc := 499) hC dL_law_499 ?_
  refine z_scr (pc := 500) hC hx hbs hA (i + 2) (nI_add i 2) (by omega) (by omega) dL_law_500 ?_
  refine z_callV (pc := 501) (st := []) hC [.int (xs (i + 1)), .int (xs (i + 2))] (kR6_get C.2.1 g N I1 P1 J1 hmd (xs (i + 1)) (xs (i + 2))) rfl (z_lt hC (by decide)) rfl zkX6_get zm_4_180 ⟨rfl, rfl⟩ rfl rfl hRm ⟨Nat.le_of_ble_eq_true rfl, Nat.le_of_ble_eq_true rfl⟩ (Nat.le_of_ble_eq_true rfl) ⟨(by show kc + 2 + 0 ≤ 601024; omega), (by show ks + 12 + 0 ≤ 7293034; omega)⟩ dL_law_501 ?_
  intro w9 I2 P2 J2 hw
  obtain ⟨b9, hwb⟩ := hw.1
  subst hwb
  obtain ⟨ht, hout, σ2, hLI⟩ := (zLq_getp hI hv hw).go
  show zJ C g N 7 (kc + 2) (ks + 12) I2 P2 J2 504 [(5, .int c), (4, .int (nI i)), (0, .ref b), (1, .ref (g.1 80)), (2, .ref (g.1 95)), (3, .ref (g.1 110))] [.int b9]
  refine z_istore (pc := 504) (lv' := [(6, .int b9), (5, .int c), (4, .int (nI i)), (0, .ref b), (1, .ref (g.1 80)), (2, .ref (g.1 95)), (3, .ref (g.1 110))]) hC dL_law_504 (by decide) rfl ?_
  refine z_aload_n (pc := 506) hC 5 dL_law_506 rfl rfl z_isr_r ?_
  refine z_cV (pc := 507) (st := []) hC [] (kX6_thrown C.2.1 g N I2 P2 J2 c ht) rfl (z_lt hC (by decide)) rfl zkX6_thrown zm_4_123 ⟨rfl, rfl⟩ rfl rfl hRm ⟨Nat.le_of_ble_eq_true rfl, Nat.le_of_ble_eq_true rfl⟩ (Nat.le_of_ble_eq_true rfl) ⟨(by show kc + 2 + 0 ≤ 601024; omega), (by show ks + 12 + 0 ≤ 7293034; omega)⟩ dL_law_507 ?_
  refine z_iload (pc := 510) hC 1 dL_law_510 rfl ?_
  refine z_icmp_eq (pc := 512) (tgt := 517) hC dL_law_512 (by decide) (fun h512 => ?_) (fun h512 => ?_)
  · skip
    refine z_iload (pc := 517) hC 1 dL_law_517 rfl ?_
    refine z_if_ne (pc := 519) (tgt := 534) hC dL_law_519 (by decide) (fun h519 => ?_) (fun h519 => ?_)
    · skip
      refine z_goto (pc := 534) (tgt := 1334) hC dL_law_534 (by decide) ?_
      refine z_lvs (lv' := [(4, .int (nI i)), (0, .ref b), (1, .ref (g.1 80)), (2, .ref (g.1 95)), (3, .ref (g.1 110))]) [2, 3, 4, 5, 6] rfl ?_
      refine z_widen (k := kc + 50) (n := ks + 1000) (by omega) (by omega) ?_
      exact hkk g.1 N σ2 τ I2 P2 J2 hG (fun _ _ => rfl) (Nat.le_refl _) hLI
    · skip
      have hc0 : c = 0 := h519
      refine z_aload_n (pc := 522) hC 6 dL_law_522 rfl rfl z_isr_r ?_
      refine z_iconst (pc := 523) (v := 0) hC dL_law_523 rfl ?_
      refine z_laN (pc := 524) hC 0 (x := J2 110 0) rfl (z_lt hC (by decide)) rfl (by decide) (by decide) rfl dL_law_524 ?_
      refine z_iload (pc := 525) hC 0 dL_law_525 rfl ?_
      refine z_i2l (pc := 527) hC dL_law_527 ?_
      refine z_lcmp (pc := 528) hC dL_law_528 ?_
      refine z_if_eq (pc := 529) (tgt := 534) hC dL_law_529 (by decide) (fun h529 => ?_) (fun h529 => ?_)
      · skip
        refine z_goto (pc := 534) (tgt := 1334) hC dL_law_534 (by decide) ?_
        refine z_lvs (lv' := [(4, .int (nI i)), (0, .ref b), (1, .ref (g.1 80)), (2, .ref (g.1 95)), (3, .ref (g.1 110))]) [2, 3, 4, 5, 6] rfl ?_
        refine z_widen (k := kc + 50) (n := ks + 1000) (by omega) (by omega) ?_
        exact hkk g.1 N σ2 τ I2 P2 J2 hG (fun _ _ => rfl) (Nat.le_refl _) hLI
      · skip
        exact absurd (by rw [hout hc0]; exact lg_cmp_self _) h529
  · skip
    exact absurd rfl h512
theorem zLw_copyStyle {C : zC} {g : zG} {sa : Nat → Nat} {N b L i kc ks : Nat} {xs : Nat → Int32} {σ : zS} {τ : Nat → zS} {I : Nat → Nat → Int32} {P : Nat → Nat → Option Nat} {J : Nat → Nat → Int64} (hLC : zLC C g sa N b L xs) (hi : i + 4 ≤ L) (hcb : kc + 50 ≤ 601024) (hsb : ks + 1000 ≤ 7293034) (hI : zLI N σ τ I P) (hkk : zLK C g N kc ks b i) : zJ C g N 7 kc ks I P J 537 [(4, .int (nI i)), (0, .ref b), (1, .ref (g.1 80)), (2, .ref (g.1 95)), (3, .ref (g.1 110))] [] := by
  obtain ⟨hC, hX, hNC, hAO, hst, hRm, hx, hbs, hA, hL⟩ := id hLC
  have hG := hC.2.2.2.2.2.2
  refine z_aload_n (pc := 537) hC 2 dL_law_537 rfl rfl z_isr_r ?_
  refine z_aload_n (pc := 538) hC 1 dL_law_538 rfl rfl z_isr_r ?_
  refine z_iload (pc := 539) hC 0 dL_law_539 rfl ?_
  refine z_iconst (pc := 541) (v := 1) hC dL_law_541 rfl ?_
  refine z_iadd (pc := 542) hC dL_law_542 ?_
  refine z_scr (pc := 543) hC hx hbs hA (i + 1) (nI_add i 1) (by omega) (by omega) dL_law_543 ?_
  refine z_aload_n (pc := 544) hC 1 dL_law_544 rfl rfl z_isr_r ?_
  refine z_iload (pc := 545) hC 0 dL_law_545 rfl ?_
  refine z_iconst (pc := 547) (v := 2) hC dL_law_547 rfl ?_
  refine z_iadd (pc := 548) hC dL_law_548 ?_
  refine z_scr (pc := 549) hC hx hbs hA (i + 2) (nI_add i 2) (by omega) (by omega) dL_law_549 ?_
  refine z_aload_n (pc := 550) hC 4 dL_law_550 rfl rfl z_isr_r ?_
  refine z_callH (pc := 551) (st := []) hC hX hNC [.ref (g.1 80), .int (xs (i + 1)), .int (xs (i + 2)), .ref (g.1 110)] (kL_copyStyle C.2.1 hst g sa N I P J hI.1  (xs (i + 1)) (xs (i + 2))) zhL_copyStyle zm_3_132 ⟨rfl, rfl⟩ rfl rfl hRm ⟨Nat.le_of_ble_eq_true rfl, Nat.le_of_ble_eq_true rfl⟩ (Nat.le_of_ble_eq_true rfl) ⟨(by show kc + 2 ≤ 601024; omega), (by show ks + 12 ≤ 7293034; omega)⟩ dL_law_551 (fun v I1 P1 J1 hv => ?_)
  obtain ⟨c, hvc⟩ := zLV_int hv
  subst hvc
  have hmd : zMd σ I1 := by
    rcases hv with ⟨-, r, K1, -, hp⟩ | ⟨i9, k9, -, -, hp⟩
    · exact hI.md hp.2
    · exact hI.md hp.2.2
  show zJ C g N 7 (kc + 2) (ks + 12) I1 P1 J1 554 [(4, .int (nI i)), (0, .ref b), (1, .ref (g.1 80)), (2, .ref (g.1 95)), (3, .ref (g.1 110))] [.int c]
  refine z_istore (pc := 554) (lv' := [(5, .int c), (4, .int (nI i)), (0, .ref b), (1, .ref (g.1 80)), (2, .ref (g.1 95)), (3, .ref (g.1 110))]) hC dL_law_554 (by decide) rfl ?_
  refine z_aload_n (pc := 556) hC 4 dL_law_556 rfl rfl z_isr_r ?_
  refine z_aload_n (pc := 557) hC 2 dL_law_557 rfl rfl z_isr_r ?_
  refine z_iload (pc := 558) hC 1 dL_law_558 rfl ?_
  refine z_iconst (pc := 560) (v := 1) hC dL_law_560 rfl ?_
  refine z_iadd (pc := 561) hC dL_law_561 ?_
  refine z_scr (pc := 562) hC hx hbs hA (i + 1) (nI_add i 1) (by omega) (by omega) dL_law_562 ?_
  refine z_aload_n (pc := 563) hC 2 dL_law_563 rfl rfl z_isr_r ?_
  refine z_iload (pc := 564) hC 1 dL_law_564 rfl ?_
  refine z_iconst (pc := 566) (v := 2) hC dL_law_566 rfl ?_
  refine z_iadd (pc := 567) hC dL_law_567 ?_
  refine z_scr (pc := 568) hC hx hbs hA (i + 2) (nI_add i 2) (by omega) (by omega) dL_law_568 ?_
  by_cases hzz : zbx σ (xs (i + 1)) = true ∧ zbx σ (xs (i + 2)) = true
  · skip
    obtain ⟨ba, ea, ha4, hea⟩ := zbx_iff.mp hzz.1
    obtain ⟨bb, eb, hb4, heb⟩ := zbx_iff.mp hzz.2
    have hcm := kX6_copyStyleT C.2.1 g N I1 P1 J1 hmd ba bb hea heb
    rw [← ea, ← eb] at hcm
    refine z_callV (pc := 569) (st := []) hC [.int (xs (i + 1)), .int (xs (i + 2))] (hcm) rfl (z_lt hC (by decide)) rfl zkX6_copyStyle zm_4_184 ⟨rfl, rfl⟩ rfl rfl hRm ⟨Nat.le_of_ble_eq_true rfl, Nat.le_of_ble_eq_true rfl⟩ (Nat.le_of_ble_eq_true rfl) ⟨(by show kc + 2 + 0 ≤ 601024; omega), (by show ks + 12 + 0 ≤ 7293034; omega)⟩ dL_law_569 ?_
    intro w9 I2 P2 J2 hw
    have hw0 := hw.1
    subst hw0
    obtain ⟨ht, hout, σ2, hLI⟩ := (zLq_copy hI hv (Or.inl ⟨ba, bb, ea, eb, ha4, hb4, hea, heb, rfl, hw.2.1, hw.2.2.1, hw.2.2.2⟩)).go
    show zJ C g N 7 (kc + 2) (ks + 12) I2 P2 J2 572 [(5, .int c), (4, .int (nI i)), (0, .ref b), (1, .ref (g.1 80)), (2, .ref (g.1 95)), (3, .ref (g.1 110))] [.int (nI (sCpC σ ba bb 17))]
    refine z_istore (pc := 572) (lv' := [(6, .int (nI (sCpC σ ba bb 17))), (5, .int c), (4, .int (nI i)), (0, .ref b), (1, .ref (g.1 80)), (2, .ref (g.1 95)), (3, .ref (g.1 110))]) hC dL_law_572 (by decide) rfl ?_
    refine z_aload_n (pc := 574) hC 5 dL_law_574 rfl rfl z_isr_r ?_
    refine z_cV (pc := 575) (st := []) hC [] (kX6_thrown C.2.1 g N I2 P2 J2 c ht) rfl (z_lt hC (by decide)) rfl zkX6_thrown zm_4_123 ⟨rfl, rfl⟩ rfl rfl hRm ⟨Nat.le_of_ble_eq_true rfl, Nat.le_of_ble_eq_true rfl⟩ (Nat.le_of_ble_eq_true rfl) ⟨(by show kc + 2 + 0 ≤ 601024; omega), (by show ks + 12 + 0 ≤ 7293034; omega)⟩ dL_law_575 ?_
    refine z_iload (pc := 578) hC 1 dL_law_578 rfl ?_
    refine z_icmp_eq (pc := 580) (tgt := 585) hC dL_law_580 (by decide) (fun h580 => ?_) (fun h580 => ?_)
    · skip
      refine z_iload (pc := 585) hC 1 dL_law_585 rfl ?_
      refine z_if_ne (pc := 587) (tgt := 602) hC dL_law_587 (by decide) (fun h587 => ?_) (fun h587 => ?_)
      · skip
        refine z_goto (pc := 602) (tgt := 1334) hC dL_law_602 (by decide) ?_
        refine z_lvs (lv' := [(4, .int (nI i)), (0, .ref b), (1, .ref (g.1 80)), (2, .ref (g.1 95)), (3, .ref (g.1 110))]) [2, 3, 4, 5, 6] rfl ?_
        refine z_widen (k := kc + 50) (n := ks + 1000) (by omega) (by omega) ?_
        exact hkk g.1 N σ2 τ I2 P2 J2 hG (fun _ _ => rfl) (Nat.le_refl _) hLI
      · skip
        have hc0 : c = 0 := h587
        refine z_aload_n (pc := 590) hC 6 dL_law_590 rfl rfl z_isr_r ?_
        refine z_iconst (pc := 591) (v := 0) hC dL_law_591 rfl ?_
        refine z_laN (pc := 592) hC 0 (x := J2 110 0) rfl (z_lt hC (by decide)) rfl (by decide) (by decide) rfl dL_law_592 ?_
        refine z_iload (pc := 593) hC 0 dL_law_593 rfl ?_
        refine z_i2l (pc := 595) hC dL_law_595 ?_
        refine z_lcmp (pc := 596) hC dL_law_596 ?_
        refine z_if_eq (pc := 597) (tgt := 602) hC dL_law_597 (by decide) (fun h597 => ?_) (fun h597 => ?_)
        · skip
          refine z_goto (pc := 602) (tgt := 1334) hC dL_law_602 (by decide) ?_
          refine z_lvs (lv' := [(4, .int (nI i)), (0, .ref b), (1, .ref (g.1 80)), (2, .ref (g.1 95)), (3, .ref (g.1 110))]) [2, 3, 4, 5, 6] rfl ?_
          refine z_widen (k := kc + 50) (n := ks + 1000) (by omega) (by omega) ?_
          exact hkk g.1 N σ2 τ I2 P2 J2 hG (fun _ _ => rfl) (Nat.le_refl _) hLI
        · skip
          exact absurd (by rw [hout hc0]; exact lg_cmp_self _) h597
    · skip
      exact absurd rfl h580
  · skip
    have hzf : zbx σ (xs (i + 1)) = false ∨ zbx σ (xs (i + 2)) = false := by
      rcases Bool.eq_false_or_eq_true (zbx σ (xs (i + 1))) with q1 | q1
      · rcases Bool.eq_false_or_eq_true (zbx σ (xs (i + 2))) with q2 | q2
        · exact (hzz ⟨q1, q2⟩).elim
        · exact Or.inr q2
      · exact Or.inl q1
    have hcm := kX6_copyStyleF C.2.1 g N I1 P1 J1 hmd (xs (i + 1)) (xs (i + 2)) hzf
    refine z_callV (pc := 569) (st := []) hC [.int (xs (i + 1)), .int (xs (i + 2))] (hcm) rfl (z_lt hC (by decide)) rfl zkX6_copyStyle zm_4_184 ⟨rfl, rfl⟩ rfl rfl hRm ⟨Nat.le_of_ble_eq_true rfl, Nat.le_of_ble_eq_true rfl⟩ (Nat.le_of_ble_eq_true rfl) ⟨(by show kc + 2 + 0 ≤ 601024; omega), (by show ks + 12 + 0 ≤ 7293034; omega)⟩ dL_law_569 ?_
    intro w9 I2 P2 J2 hw
    have hw0 := hw.1
    subst hw0
    obtain ⟨ht, hout, σ2, hLI⟩ := (zLq_copy hI hv (Or.inr ⟨hzf, rfl, hw.2.1, hw.2.2.1, hw.2.2.2⟩)).go
    show zJ C g N 7 (kc + 2) (ks + 12) I2 P2 J2 572 [(5, .int c), (4, .int (nI i)), (0, .ref b), (1, .ref (g.1 80)), (2, .ref (g.1 95)), (3, .ref (g.1 110))] [.int 0]
    refine z_istore (pc := 572) (lv' := [(6, .int 0), (5, .int c), (4, .int (nI i)), (0, .ref b), (1, .ref (g.1 80)), (2, .ref (g.1 95)), (3, .ref (g.1 110))]) hC dL_law_572 (by decide) rfl ?_
    refine z_aload_n (pc := 574) hC 5 dL_law_574 rfl rfl z_isr_r ?_
    refine z_cV (pc := 575) (st := []) hC [] (kX6_thrown C.2.1 g N I2 P2 J2 c ht) rfl (z_lt hC (by decide)) rfl zkX6_thrown zm_4_123 ⟨rfl, rfl⟩ rfl rfl hRm ⟨Nat.le_of_ble_eq_true rfl, Nat.le_of_ble_eq_true rfl⟩ (Nat.le_of_ble_eq_true rfl) ⟨(by show kc + 2 + 0 ≤ 601024; omega), (by show ks + 12 + 0 ≤ 7293034; omega)⟩ dL_law_575 ?_
    refine z_iload (pc := 578) hC 1 dL_law_578 rfl ?_
    refine z_icmp_eq (pc := 580) (tgt := 585) hC dL_law_580 (by decide) (fun h580 => ?_) (fun h580 => ?_)
    · skip
      refine z_iload (pc := 585) hC 1 dL_law_585 rfl ?_
      refine z_if_ne (pc := 587) (tgt := 602) hC dL_law_587 (by decide) (fun h587 => ?_) (fun h587 => ?_)
      · skip
        refine z_goto (pc := 602) (tgt := 1334) hC dL_law_602 (by decide) ?_
        refine z_lvs (lv' := [(4, .int (nI i)), (0, .ref b), (1, .ref (g.1 80)), (2, .ref (g.1 95)), (3, .ref (g.1 110))]) [2, 3, 4, 5, 6] rfl ?_
        refine z_widen (k := kc + 50) (n := ks + 1000) (by omega) (by omega) ?_
        exact hkk g.1 N σ2 τ I2 P2 J2 hG (fun _ _ => rfl) (Nat.le_refl _) hLI
      · skip
        have hc0 : c = 0 := h587
        refine z_aload_n (pc := 590) hC 6 dL_law_590 rfl rfl z_isr_r ?_
        refine z_iconst (pc := 591) (v := 0) hC dL_law_591 rfl ?_
        refine z_laN (pc := 592) hC 0 (x := J2 110 0) rfl (z_lt hC (by decide)) rfl (by decide) (by decide) rfl dL_law_592 ?_
        refine z_iload (pc := 593) hC 0 dL_law_593 rfl ?_
        refine z_i2l (pc := 595) hC dL_law_595 ?_
        refine z_lcmp (pc := 596) hC dL_law_596 ?_
        refine z_if_eq (pc := 597) (tgt := 602) hC dL_law_597 (by decide) (fun h597 => ?_) (fun h597 => ?_)
        · skip
          refine z_goto (pc := 602) (tgt := 1334) hC dL_law_602 (by decide) ?_
          refine z_lvs (lv' := [(4, .int (nI i)), (0, .ref b), (1, .ref (g.1 80)), (2, .ref (g.1 95)), (3, .ref (g.1 110))]) [2, 3, 4, 5, 6] rfl ?_
          refine z_widen (k := kc + 50) (n := ks + 1000) (by omega) (by omega) ?_
          exact hkk g.1 N σ2 τ I2 P2 J2 hG (fun _ _ => rfl) (Nat.le_refl _) hLI
        · skip
          exact absurd (by rw [hout hc0]; exact lg_cmp_self _) h597
    · skip
      exact absurd rfl h580
theorem zLw_viewport {C : zC} {g : zG} {sa : Nat → Nat} {N b L i kc ks : Nat} {xs : Nat → Int32} {σ : zS} {τ : Nat → zS} {I : Nat → Nat → Int32} {P : Nat → Nat → Option Nat} {J : Nat → Nat → Int64} (hLC : zLC C g sa N b L xs) (hi : i + 4 ≤ L) (hcb : kc + 50 ≤ 601024) (hsb : ks + 1000 ≤ 7293034) (hI : zLI N σ τ I P) (hkk : zLK C g N kc ks b i) : zJ C g N 7 kc ks I P J 605 [(4, .int (nI i)), (0, .ref b), (1, .ref (g.1 80)), (2, .ref (g.1 95)), (3, .ref (g.1 110))] [] := by
  obtain ⟨hC, hX, hNC, hAO, hst, hRm, hx, hbs, hA, hL⟩ := id hLC
  have hG := hC.2.2.2.2.2.2
  refine z_aload_n (pc := 605) hC 2 dL_law_605 rfl rfl z_isr_r ?_
  refine z_aload_n (pc := 606) hC 1 dL_law_606 rfl rfl z_isr_r ?_
  refine z_iload (pc := 607) hC 0 dL_law_607 rfl ?_
  refine z_iconst (pc := 609) (v := 1) hC dL_law_609 rfl ?_
  refine z_iadd (pc := 610) hC dL_law_610 ?_
  refine z_scr (pc := 611) hC hx hbs hA (i + 1) (nI_add i 1) (by omega) (by omega) dL_law_611 ?_
  refine z_aload_n (pc := 612) hC 1 dL_law_612 rfl rfl z_isr_r ?_
  refine z_iload (pc := 613) hC 0 dL_law_613 rfl ?_
  refine z_iconst (pc := 615) (v := 2) hC dL_law_615 rfl ?_
  refine z_iadd (pc := 616) hC dL_law_616 ?_
  refine z_scr (pc := 617) hC hx hbs hA (i + 2) (nI_add i 2) (by omega) (by omega) dL_law_617 ?_
  refine z_callH (pc := 618) (st := []) hC hX hNC [.ref (g.1 80), .int (xs (i + 1)), .int (xs (i + 2))] (kL_viewport C.2.1 hst g sa N I P J hI.1  (xs (i + 1)) (xs (i + 2))) zhL_viewport zm_3_139 ⟨rfl, rfl⟩ rfl rfl hRm ⟨Nat.le_of_ble_eq_true rfl, Nat.le_of_ble_eq_true rfl⟩ (Nat.le_of_ble_eq_true rfl) ⟨(by show kc + 1 ≤ 601024; omega), (by show ks + 6 ≤ 7293034; omega)⟩ dL_law_618 (fun v I1 P1 J1 hv => ?_)
  obtain ⟨c, hvc⟩ := zLN_int hv
  subst hvc
  have hmd : zMd σ I1 := by
    rcases hv with ⟨-, hp⟩ | ⟨i9, k9, -, -, hp⟩
    · exact hI.md hp.2.2.2
    · exact hI.md hp.2.2
  show zJ C g N 7 (kc + 1) (ks + 6) I1 P1 J1 621 [(4, .int (nI i)), (0, .ref b), (1, .ref (g.1 80)), (2, .ref (g.1 95)), (3, .ref (g.1 110))] [.int c]
  refine z_istore (pc := 621) (lv' := [(5, .int c), (4, .int (nI i)), (0, .ref b), (1, .ref (g.1 80)), (2, .ref (g.1 95)), (3, .ref (g.1 110))]) hC dL_law_621 (by decide) rfl ?_
  refine z_aload_n (pc := 623) hC 4 dL_law_623 rfl rfl z_isr_r ?_
  refine z_aload_n (pc := 624) hC 2 dL_law_624 rfl rfl z_isr_r ?_
  refine z_iload (pc := 625) hC 1 dL_law_625 rfl ?_
  refine z_iconst (pc := 627) (v := 1) hC dL_law_627 rfl ?_
  refine z_iadd (pc := 628) hC dL_law_628 ?_
  refine z_scr (pc := 629) hC hx hbs hA (i + 1) (nI_add i 1) (by omega) (by omega) dL_law_629 ?_
  refine z_aload_n (pc := 630) hC 2 dL_law_630 rfl rfl z_isr_r ?_
  refine z_iload (pc := 631) hC 1 dL_law_631 rfl ?_
  refine z_iconst (pc := 633) (v := 2) hC dL_law_633 rfl ?_
  refine z_iadd (pc := 634) hC dL_law_634 ?_
  refine z_scr (pc := 635) hC hx hbs hA (i + 2) (nI_add i 2) (by omega) (by omega) dL_law_635 ?_
  refine z_callV (pc := 636) (st := []) hC [.int (xs (i + 1)), .int (xs (i + 2))] (kX6_viewport C.2.1 g N I1 P1 J1 hmd (xs (i + 1)) (xs (i + 2))) rfl (z_lt hC (by decide)) rfl zkX6_viewport zm_4_188 ⟨rfl, rfl⟩ rfl rfl hRm ⟨Nat.le_of_ble_eq_true rfl, Nat.le_of_ble_eq_true rfl⟩ (Nat.le_of_ble_eq_true rfl) ⟨(by show kc + 1 + 0 ≤ 601024; omega), (by show ks + 6 + 0 ≤ 7293034; omega)⟩ dL_law_636 ?_
  intro w9 I2 P2 J2 hw
  have hw0 := hw.1
  subst hw0
  obtain ⟨ht, σ2, hLI⟩ := (zLn_vp hI hv hw.2).go
  show zJ C g N 7 (kc + 1) (ks + 6) I2 P2 J2 639 [(5, .int c), (4, .int (nI i)), (0, .ref b), (1, .ref (g.1 80)), (2, .ref (g.1 95)), (3, .ref (g.1 110))] []
  refine z_aload_n (pc := 639) hC 4 dL_law_639 rfl rfl z_isr_r ?_
  refine z_cV (pc := 640) (st := []) hC [] (kX6_thrown C.2.1 g N I2 P2 J2 c ht) rfl (z_lt hC (by decide)) rfl zkX6_thrown zm_4_123 ⟨rfl, rfl⟩ rfl rfl hRm ⟨Nat.le_of_ble_eq_true rfl, Nat.le_of_ble_eq_true rfl⟩ (Nat.le_of_ble_eq_true rfl) ⟨(by show kc + 1 + 0 ≤ 601024; omega), (by show ks + 6 + 0 ≤ 7293034; omega)⟩ dL_law_640 ?_
  refine z_iload (pc := 643) hC 0 dL_law_643 rfl ?_
  refine z_icmp_eq (pc := 645) (tgt := 650) hC dL_law_645 (by decide) (fun h645 => ?_) (fun h645 => ?_)
  · skip
    refine z_goto (pc := 650) (tgt := 1334) hC dL_law_650 (by decide) ?_
    refine z_lvs (lv' := [(4, .int (nI i)), (0, .ref b), (1, .ref (g.1 80)), (2, .ref (g.1 95)), (3, .ref (g.1 110))]) [1, 2, 3, 4, 5] rfl ?_
    refine z_widen (k := kc + 50) (n := ks + 1000) (by omega) (by omega) ?_
    exact hkk g.1 N σ2 τ I2 P2 J2 hG (fun _ _ => rfl) (Nat.le_refl _) hLI
  · skip
    exact absurd rfl h645
theorem zLw_x {C : zC} {g : zG} {sa : Nat → Nat} {N b L i kc ks : Nat} {xs : Nat → Int32} {σ : zS} {τ : Nat → zS} {I : Nat → Nat → Int32} {P : Nat → Nat → Option Nat} {J : Nat → Nat → Int64} (hLC : zLC C g sa N b L xs) (hi : i + 4 ≤ L) (hcb : kc + 50 ≤ 601024) (hsb : ks + 1000 ≤ 7293034) (hI : zLI N σ τ I P) (hkk : zLK C g N kc ks b i) : zJ C g N 7 kc ks I P J 653 [(4, .int (nI i)), (0, .ref b), (1, .ref (g.1 80)), (2, .ref (g.1 95)), (3, .ref (g.1 110))] [] := by
  obtain ⟨hC, hX, hNC, hAO, hst, hRm, hx, hbs, hA, hL⟩ := id hLC
  have hG := hC.2.2.2.2.2.2
  refine z_aload_n (pc := 653) hC 2 dL_law_653 rfl rfl z_isr_r ?_
  refine z_aload_n (pc := 654) hC 1 dL_law_654 rfl rfl z_isr_r ?_
  refine z_iload (pc := 655) hC 0 dL_law_655 rfl ?_
  refine z_iconst (pc := 657) (v := 1) hC dL_law_657 rfl ?_
  refine z_iadd (pc := 658) hC dL_law_658 ?_
  refine z_scr (pc := 659) hC hx hbs hA (i + 1) (nI_add i 1) (by omega) (by omega) dL_law_659 ?_
  refine z_aload_n (pc := 660) hC 4 dL_law_660 rfl rfl z_isr_r ?_
  refine z_callH (pc := 661) (st := []) hC hX hNC [.ref (g.1 80), .int (xs (i + 1)), .ref (g.1 110)] (kL_x C.2.1 hst g sa N I P J hI.1  (xs (i + 1))) zhL_x zm_3_150 ⟨rfl, rfl⟩ rfl rfl hRm ⟨Nat.le_of_ble_eq_true rfl, Nat.le_of_ble_eq_true rfl⟩ (Nat.le_of_ble_eq_true rfl) ⟨(by show kc + 2 ≤ 601024; omega), (by show ks + 12 ≤ 7293034; omega)⟩ dL_law_661 (fun v I1 P1 J1 hv => ?_)
  obtain ⟨c, hvc⟩ := zLV_int hv
  subst hvc
  have hmd : zMd σ I1 := by
    rcases hv with ⟨-, r, K1, -, hp⟩ | ⟨i9, k9, -, -, hp⟩
    · exact hI.md hp.2.2
    · exact hI.md hp.2.2
  show zJ C g N 7 (kc + 2) (ks + 12) I1 P1 J1 664 [(4, .int (nI i)), (0, .ref b), (1, .ref (g.1 80)), (2, .ref (g.1 95)), (3, .ref (g.1 110))] [.int c]
  refine z_istore (pc := 664) (lv' := [(5, .int c), (4, .int (nI i)), (0, .ref b), (1, .ref (g.1 80)), (2, .ref (g.1 95)), (3, .ref (g.1 110))]) hC dL_law_664 (by decide) rfl ?_
  refine z_aload_n (pc := 666) hC 4 dL_law_666 rfl rfl z_isr_r ?_
  refine z_aload_n (pc := 667) hC 2 dL_law_667 rfl rfl z_isr_r ?_
  refine z_iload (pc := 668) hC 1 dL_law_668 rfl ?_
  refine z_iconst (pc := 670) (v := 1) hC dL_law_670 rfl ?_
  refine z_iadd (pc := 671) hC dL_law_671 ?_
  refine z_scr (pc := 672) hC hx hbs hA (i + 1) (nI_add i 1) (by omega) (by omega) dL_law_672 ?_
  refine z_callV (pc := 673) (st := []) hC [.int (xs (i + 1))] (kR6_x C.2.1 g N I1 P1 J1 hmd (xs (i + 1))) rfl (z_lt hC (by decide)) rfl zkX6_x zm_4_192 ⟨rfl, rfl⟩ rfl rfl hRm ⟨Nat.le_of_ble_eq_true rfl, Nat.le_of_ble_eq_true rfl⟩ (Nat.le_of_ble_eq_true rfl) ⟨(by show kc + 2 + 0 ≤ 601024; omega), (by show ks + 12 + 0 ≤ 7293034; omega)⟩ dL_law_673 ?_
  intro w9 I2 P2 J2 hw
  obtain ⟨b9, hwb⟩ := hw.1
  subst hwb
  obtain ⟨ht, hout, σ2, hLI⟩ := (zLq_get hI hv hw).go
  show zJ C g N 7 (kc + 2) (ks + 12) I2 P2 J2 676 [(5, .int c), (4, .int (nI i)), (0, .ref b), (1, .ref (g.1 80)), (2, .ref (g.1 95)), (3, .ref (g.1 110))] [.int b9]
  refine z_istore (pc := 676) (lv' := [(6, .int b9), (5, .int c), (4, .int (nI i)), (0, .ref b), (1, .ref (g.1 80)), (2, .ref (g.1 95)), (3, .ref (g.1 110))]) hC dL_law_676 (by decide) rfl ?_
  refine z_aload_n (pc := 678) hC 5 dL_law_678 rfl rfl z_isr_r ?_
  refine z_cV (pc := 679) (st := []) hC [] (kX6_thrown C.2.1 g N I2 P2 J2 c ht) rfl (z_lt hC (by decide)) rfl zkX6_thrown zm_4_123 ⟨rfl, rfl⟩ rfl rfl hRm ⟨Nat.le_of_ble_eq_true rfl, Nat.le_of_ble_eq_true rfl⟩ (Nat.le_of_ble_eq_true rfl) ⟨(by show kc + 2 + 0 ≤ 601024; omega), (by show ks + 12 + 0 ≤ 7293034; omega)⟩ dL_law_679 ?_
  refine z_iload (pc := 682) hC 1 dL_law_682 rfl ?_
  refine z_icmp_eq (pc := 684) (tgt := 689) hC dL_law_684 (by decide) (fun h684 => ?_) (fun h684 => ?_)
  · skip
    refine z_iload (pc := 689) hC 1 dL_law_689 rfl ?_
    refine z_if_ne (pc := 691) (tgt := 706) hC dL_law_691 (by decide) (fun h691 => ?_) (fun h691 => ?_)
    · skip
      refine z_goto (pc := 706) (tgt := 1334) hC dL_law_706 (by decide) ?_
      refine z_lvs (lv' := [(4, .int (nI i)), (0, .ref b), (1, .ref (g.1 80)), (2, .ref (g.1 95)), (3, .ref (g.1 110))]) [2, 3, 4, 5, 6] rfl ?_
      refine z_widen (k := kc + 50) (n := ks + 1000) (by omega) (by omega) ?_
      exact hkk g.1 N σ2 τ I2 P2 J2 hG (fun _ _ => rfl) (Nat.le_refl _) hLI
    · skip
      have hc0 : c = 0 := h691
      refine z_aload_n (pc := 694) hC 6 dL_law_694 rfl rfl z_isr_r ?_
      refine z_iconst (pc := 695) (v := 0) hC dL_law_695 rfl ?_
      refine z_laN (pc := 696) hC 0 (x := J2 110 0) rfl (z_lt hC (by decide)) rfl (by decide) (by decide) rfl dL_law_696 ?_
      refine z_iload (pc := 697) hC 0 dL_law_697 rfl ?_
      refine z_i2l (pc := 699) hC dL_law_699 ?_
      refine z_lcmp (pc := 700) hC dL_law_700 ?_
      refine z_if_eq (pc := 701) (tgt := 706) hC dL_law_701 (by decide) (fun h701 => ?_) (fun h701 => ?_)
      · skip
        refine z_goto (pc := 706) (tgt := 1334) hC dL_law_706 (by decide) ?_
        refine z_lvs (lv' := [(4, .int (nI i)), (0, .ref b), (1, .ref (g.1 80)), (2, .ref (g.1 95)), (3, .ref (g.1 110))]) [2, 3, 4, 5, 6] rfl ?_
        refine z_widen (k := kc + 50) (n := ks + 1000) (by omega) (by omega) ?_
        exact hkk g.1 N σ2 τ I2 P2 J2 hG (fun _ _ => rfl) (Nat.le_refl _) hLI
      · skip
        exact absurd (by rw [hout hc0]; exact lg_cmp_self _) h701
  · skip
    exact absurd rfl h684
theorem zLw_y {C : zC} {g : zG} {sa : Nat → Nat} {N b L i kc ks : Nat} {xs : Nat → Int32} {σ : zS} {τ : Nat → zS} {I : Nat → Nat → Int32} {P : Nat → Nat → Option Nat} {J : Nat → Nat → Int64} (hLC : zLC C g sa N b L xs) (hi : i + 4 ≤ L) (hcb : kc + 50 ≤ 601024) (hsb : ks + 1000 ≤ 7293034) (hI : zLI N σ τ I P) (hkk : zLK C g N kc ks b i) : zJ C g N 7 kc ks I P J 709 [(4, .int (nI i)), (0, .ref b), (1, .ref (g.1 80)), (2, .ref (g.1 95)), (3, .ref (g.1 110))] [] := by
  obtain ⟨hC, hX, hNC, hAO, hst, hRm, hx, hbs, hA, hL⟩ := id hLC
  have hG := hC.2.2.2.2.2.2
  refine z_aload_n (pc := 709) hC 2 dL_law_709 rfl rfl z_isr_r ?_
  refine z_aload_n (pc := 710) hC 1 dL_law_710 rfl rfl z_isr_r ?_
  refine z_iload (pc := 711) hC 0 dL_law_711 rfl ?_
  refine z_iconst (pc := 713) (v := 1) hC dL_law_713 rfl ?_
  refine z_iadd (pc := 714) hC dL_law_714 ?_
  refine z_scr (pc := 715) hC hx hbs hA (i + 1) (nI_add i 1) (by omega) (by omega) dL_law_715 ?_
  refine z_aload_n (pc := 716) hC 4 dL_law_716 rfl rfl z_isr_r ?_
  refine z_callH (pc := 717) (st := []) hC hX hNC [.ref (g.1 80), .int (xs (i + 1)), .ref (g.1 110)] (kL_y C.2.1 hst g sa N I P J hI.1  (xs (i + 1))) zhL_y zm_3_162 ⟨rfl, rfl⟩ rfl rfl hRm ⟨Nat.le_of_ble_eq_true rfl, Nat.le_of_ble_eq_true rfl⟩ (Nat.le_of_ble_eq_true rfl) ⟨(by show kc + 2 ≤ 601024; omega), (by show ks + 12 ≤ 7293034; omega)⟩ dL_law_717 (fun v I1 P1 J1 hv => ?_)
  obtain ⟨c, hvc⟩ := zLV_int hv
  subst hvc
  have hmd : zMd σ I1 := by
    rcases hv with ⟨-, r, K1, -, hp⟩ | ⟨i9, k9, -, -, hp⟩
    · exact hI.md hp.2.2
    · exact hI.md hp.2.2
  show zJ C g N 7 (kc + 2) (ks + 12) I1 P1 J1 720 [(4, .int (nI i)), (0, .ref b), (1, .ref (g.1 80)), (2, .ref (g.1 95)), (3, .ref (g.1 110))] [.int c]
  refine z_istore (pc := 720) (lv' := [(5, .int c), (4, .int (nI i)), (0, .ref b), (1, .ref (g.1 80)), (2, .ref (g.1 95)), (3, .ref (g.1 110))]) hC dL_law_720 (by decide) rfl ?_
  refine z_aload_n (pc := 722) hC 4 dL_law_722 rfl rfl z_isr_r ?_
  refine z_aload_n (pc := 723) hC 2 dL_law_723 rfl rfl z_isr_r ?_
  refine z_iload (pc := 724) hC 1 dL_law_724 rfl ?_
  refine z_iconst (pc := 726) (v := 1) hC dL_law_726 rfl ?_
  refine z_iadd (pc := 727) hC dL_law_727 ?_
  refine z_scr (pc := 728) hC hx hbs hA (i + 1) (nI_add i 1) (by omega) (by omega) dL_law_728 ?_
  refine z_callV (pc := 729) (st := []) hC [.int (xs (i + 1))] (kR6_y C.2.1 g N I1 P1 J1 hmd (xs (i + 1))) rfl (z_lt hC (by decide)) rfl zkX6_y zm_5_94 ⟨rfl, rfl⟩ rfl rfl hRm ⟨Nat.le_of_ble_eq_true rfl, Nat.le_of_ble_eq_true rfl⟩ (Nat.le_of_ble_eq_true rfl) ⟨(by show kc + 2 + 0 ≤ 601024; omega), (by show ks + 12 + 0 ≤ 7293034; omega)⟩ dL_law_729 ?_
  intro w9 I2 P2 J2 hw
  obtain ⟨b9, hwb⟩ := hw.1
  subst hwb
  obtain ⟨ht, hout, σ2, hLI⟩ := (zLq_get hI hv hw).go
  show zJ C g N 7 (kc + 2) (ks + 12) I2 P2 J2 732 [(5, .int c), (4, .int (nI i)), (0, .ref b), (1, .ref (g.1 80)), (2, .ref (g.1 95)), (3, .ref (g.1 110))] [.int b9]
  refine z_istore (pc := 732) (lv' := [(6, .int b9), (5, .int c), (4, .int (nI i)), (0, .ref b), (1, .ref (g.1 80)), (2, .ref (g.1 95)), (3, .ref (g.1 110))]) hC dL_law_732 (by decide) rfl ?_
  refine z_aload_n (pc := 734) hC 5 dL_law_734 rfl rfl z_isr_r ?_
  refine z_cV (pc := 735) (st := []) hC [] (kX6_thrown C.2.1 g N I2 P2 J2 c ht) rfl (z_lt hC (by decide)) rfl zkX6_thrown zm_4_123 ⟨rfl, rfl⟩ rfl rfl hRm ⟨Nat.le_of_ble_eq_true rfl, Nat.le_of_ble_eq_true rfl⟩ (Nat.le_of_ble_eq_true rfl) ⟨(by show kc + 2 + 0 ≤ 601024; omega), (by show ks + 12 + 0 ≤ 7293034; omega)⟩ dL_law_735 ?_
  refine z_iload (pc := 738) hC 1 dL_law_738 rfl ?_
  refine z_icmp_eq (pc := 740) (tgt := 745) hC dL_law_740 (by decide) (fun h740 => ?_) (fun h740 => ?_)
  · skip
    refine z_iload (pc := 745) hC 1 dL_law_745 rfl ?_
    refine z_if_ne (pc := 747) (tgt := 762) hC dL_law_747 (by decide) (fun h747 => ?_) (fun h747 => ?_)
    · skip
      refine z_goto (pc := 762) (tgt := 1334) hC dL_law_762 (by decide) ?_
      refine z_lvs (lv' := [(4, .int (nI i)), (0, .ref b), (1, .ref (g.1 80)), (2, .ref (g.1 95)), (3, .ref (g.1 110))]) [2, 3, 4, 5, 6] rfl ?_
      refine z_widen (k := kc + 50) (n := ks + 1000) (by omega) (by omega) ?_
      exact hkk g.1 N σ2 τ I2 P2 J2 hG (fun _ _ => rfl) (Nat.le_refl _) hLI
    · skip
      have hc0 : c = 0 := h747
      refine z_aload_n (pc := 750) hC 6 dL_law_750 rfl rfl z_isr_r ?_
      refine z_iconst (pc := 751) (v := 0) hC dL_law_751 rfl ?_
      refine z_laN (pc := 752) hC 0 (x := J2 110 0) rfl (z_lt hC (by decide)) rfl (by decide) (by decide) rfl dL_law_752 ?_
      refine z_iload (pc := 753) hC 0 dL_law_753 rfl ?_
      refine z_i2l (pc := 755) hC dL_law_755 ?_
      refine z_lcmp (pc := 756) hC dL_law_756 ?_
      refine z_if_eq (pc := 757) (tgt := 762) hC dL_law_757 (by decide) (fun h757 => ?_) (fun h757 => ?_)
      · skip
        refine z_goto (pc := 762) (tgt := 1334) hC dL_law_762 (by decide) ?_
        refine z_lvs (lv' := [(4, .int (nI i)), (0, .ref b), (1, .ref (g.1 80)), (2, .ref (g.1 95)), (3, .ref (g.1 110))]) [2, 3, 4, 5, 6] rfl ?_
        refine z_widen (k := kc + 50) (n := ks + 1000) (by omega) (by omega) ?_
        exact hkk g.1 N σ2 τ I2 P2 J2 hG (fun _ _ => rfl) (Nat.le_refl _) hLI
      · skip
        exact absurd (by rw [hout hc0]; exact lg_cmp_self _) h757
  · skip
    exact absurd rfl h740
theorem zLw_width {C : zC} {g : zG} {sa : Nat → Nat} {N b L i kc ks : Nat} {xs : Nat → Int32} {σ : zS} {τ : Nat → zS} {I : Nat → Nat → Int32} {P : Nat → Nat → Option Nat} {J : Nat → Nat → Int64} (hLC : zLC C g sa N b L xs) (hi : i + 4 ≤ L) (hcb : kc + 50 ≤ 601024) (hsb : ks + 1000 ≤ 7293034) (hI : zLI N σ τ I P) (hkk : zLK C g N kc ks b i) : zJ C g N 7 kc ks I P J 765 [(4, .int (nI i)), (0, .ref b), (1, .ref (g.1 80)), (2, .ref (g.1 95)), (3, .ref (g.1 110))] [] := by
  obtain ⟨hC, hX, hNC, hAO, hst, hRm, hx, hbs, hA, hL⟩ := id hLC
  have hG := hC.2.2.2.2.2.2
  refine z_aload_n (pc := 765) hC 2 dL_law_765 rfl rfl z_isr_r ?_
  refine z_aload_n (pc := 766) hC 1 dL_law_766 rfl rfl z_isr_r ?_
  refine z_iload (pc := 767) hC 0 dL_law_767 rfl ?_
  refine z_iconst (pc := 769) (v := 1) hC dL_law_769 rfl ?_
  refine z_iadd (pc := 770) hC dL_law_770 ?_
  refine z_scr (pc := 771) hC hx hbs hA (i + 1) (nI_add i 1) (by omega) (by omega) dL_law_771 ?_
  refine z_aload_n (pc := 772) hC 4 dL_law_772 rfl rfl z_isr_r ?_
  refine z_callH (pc := 773) (st := []) hC hX hNC [.ref (g.1 80), .int (xs (i + 1)), .ref (g.1 110)] (kL_width C.2.1 hst g sa N I P J hI.1  (xs (i + 1))) zhL_width zm_3_169 ⟨rfl, rfl⟩ rfl rfl hRm ⟨Nat.le_of_ble_eq_true rfl, Nat.le_of_ble_eq_true rfl⟩ (Nat.le_of_ble_eq_true rfl) ⟨(by show kc + 2 ≤ 601024; omega), (by show ks + 12 ≤ 7293034; omega)⟩ dL_law_773 (fun v I1 P1 J1 hv => ?_)
  obtain ⟨c, hvc⟩ := zLV_int hv
  subst hvc
  have hmd : zMd σ I1 := by
    rcases hv with ⟨-, r, K1, -, hp⟩ | ⟨i9, k9, -, -, hp⟩
    · exact hI.md hp.2.2
    · exact hI.md hp.2.2
  show zJ C g N 7 (kc + 2) (ks + 12) I1 P1 J1 776 [(4, .int (nI i)), (0, .ref b), (1, .ref (g.1 80)), (2, .ref (g.1 95)), (3, .ref (g.1 110))] [.int c]
  refine z_istore (pc := 776) (lv' := [(5, .int c), (4, .int (nI i)), (0, .ref b), (1, .ref (g.1 80)), (2, .ref (g.1 95)), (3, .ref (g.1 110))]) hC dL_law_776 (by decide) rfl ?_
  refine z_aload_n (pc := 778) hC 4 dL_law_778 rfl rfl z_isr_r ?_
  refine z_aload_n (pc := 779) hC 2 dL_law_779 rfl rfl z_isr_r ?_
  refine z_iload (pc := 780) hC 1 dL_law_780 rfl ?_
  refine z_iconst (pc := 782) (v := 1) hC dL_law_782 rfl ?_
  refine z_iadd (pc := 783) hC dL_law_783 ?_
  refine z_scr (pc := 784) hC hx hbs hA (i + 1) (nI_add i 1) (by omega) (by omega) dL_law_784 ?_
  refine z_callV (pc := 785) (st := []) hC [.int (xs (i + 1))] (kR6_width C.2.1 g N I1 P1 J1 hmd (xs (i + 1))) rfl (z_lt hC (by decide)) rfl zkX6_width zm_5_98 ⟨rfl, rfl⟩ rfl rfl hRm ⟨Nat.le_of_ble_eq_true rfl, Nat.le_of_ble_eq_true rfl⟩ (Nat.le_of_ble_eq_true rfl) ⟨(by show kc + 2 + 0 ≤ 601024; omega), (by show ks + 12 + 0 ≤ 7293034; omega)⟩ dL_law_785 ?_
  intro w9 I2 P2 J2 hw
  obtain ⟨b9, hwb⟩ := hw.1
  subst hwb
  obtain ⟨ht, hout, σ2, hLI⟩ := (zLq_get hI hv hw).go
  show zJ C g N 7 (kc + 2) (ks + 12) I2 P2 J2 788 [(5, .int c), (4, .int (nI i)), (0, .ref b), (1, .ref (g.1 80)), (2, .ref (g.1 95)), (3, .ref (g.1 110))] [.int b9]
  refine z_istore (pc := 788) (lv' := [(6, .int b9), (5, .int c), (4, .int (nI i)), (0, .ref b), (1, .ref (g.1 80)), (2, .ref (g.1 95)), (3, .ref (g.1 110))]) hC dL_law_788 (by decide) rfl ?_
  refine z_aload_n (pc := 790) hC 5 dL_law_790 rfl rfl z_isr_r ?_
  refine z_cV (pc := 791) (st := []) hC [] (kX6_thrown C.2.1 g N I2 P2 J2 c ht) rfl (z_lt hC (by decide)) rfl zkX6_thrown zm_4_123 ⟨rfl, rfl⟩ rfl rfl hRm ⟨Nat.le_of_ble_eq_true rfl, Nat.le_of_ble_eq_true rfl⟩ (Nat.le_of_ble_eq_true rfl) ⟨(by show kc + 2 + 0 ≤ 601024; omega), (by show ks + 12 + 0 ≤ 7293034; omega)⟩ dL_law_791 ?_
  refine z_iload (pc := 794) hC 1 dL_law_794 rfl ?_
  refine z_icmp_eq (pc := 796) (tgt := 801) hC dL_law_796 (by decide) (fun h796 => ?_) (fun h796 => ?_)
  · skip
    refine z_iload (pc := 801) hC 1 dL_law_801 rfl ?_
    refine z_if_ne (pc := 803) (tgt := 818) hC dL_law_803 (by decide) (fun h803 => ?_) (fun h803 => ?_)
    · skip
      refine z_goto (pc := 818) (tgt := 1334) hC dL_law_818 (by decide) ?_
      refine z_lvs (lv' := [(4, .int (nI i)), (0, .ref b), (1, .ref (g.1 80)), (2, .ref (g.1 95)), (3, .ref (g.1 110))]) [2, 3, 4, 5, 6] rfl ?_
      refine z_widen (k := kc + 50) (n := ks + 1000) (by omega) (by omega) ?_
      exact hkk g.1 N σ2 τ I2 P2 J2 hG (fun _ _ => rfl) (Nat.le_refl _) hLI
    · skip
      have hc0 : c = 0 := h803
      refine z_aload_n (pc := 806) hC 6 dL_law_806 rfl rfl z_isr_r ?_
      refine z_iconst (pc := 807) (v := 0) hC dL_law_807 rfl ?_
      refine z_laN (pc := 808) hC 0 (x := J2 110 0) rfl (z_lt hC (by decide)) rfl (by decide) (by decide) rfl dL_law_808 ?_
      refine z_iload (pc := 809) hC 0 dL_law_809 rfl ?_
      refine z_i2l (pc := 811) hC dL_law_811 ?_
      refine z_lcmp (pc := 812) hC dL_law_812 ?_
      refine z_if_eq (pc := 813) (tgt := 818) hC dL_law_813 (by decide) (fun h813 => ?_) (fun h813 => ?_)
      · skip
        refine z_goto (pc := 818) (tgt := 1334) hC dL_law_818 (by decide) ?_
        refine z_lvs (lv' := [(4, .int (nI i)), (0, .ref b), (1, .ref (g.1 80)), (2, .ref (g.1 95)), (3, .ref (g.1 110))]) [2, 3, 4, 5, 6] rfl ?_
        refine z_widen (k := kc + 50) (n := ks + 1000) (by omega) (by omega) ?_
        exact hkk g.1 N σ2 τ I2 P2 J2 hG (fun _ _ => rfl) (Nat.le_refl _) hLI
      · skip
        exact absurd (by rw [hout hc0]; exact lg_cmp_self _) h813
  · skip
    exact absurd rfl h796
theorem zLw_height {C : zC} {g : zG} {sa : Nat → Nat} {N b L i kc ks : Nat} {xs : Nat → Int32} {σ : zS} {τ : Nat → zS} {I : Nat → Nat → Int32} {P : Nat → Nat → Option Nat} {J : Nat → Nat → Int64} (hLC : zLC C g sa N b L xs) (hi : i + 4 ≤ L) (hcb : kc + 50 ≤ 601024) (hsb : ks + 1000 ≤ 7293034) (hI : zLI N σ τ I P) (hkk : zLK C g N kc ks b i) : zJ C g N 7 kc ks I P J 821 [(4, .int (nI i)), (0, .ref b), (1, .ref (g.1 80)), (2, .ref (g.1 95)), (3, .ref (g.1 110))] [] := by
  obtain ⟨hC, hX, hNC, hAO, hst, hRm, hx, hbs, hA, hL⟩ := id hLC
  have hG := hC.2.2.2.2.2.2
  refine z_aload_n (pc := 821) hC 2 dL_law_821 rfl rfl z_isr_r ?_
  refine z_aload_n (pc := 822) hC 1 dL_law_822 rfl rfl z_isr_r ?_
  refine z_iload (pc := 823) hC 0 dL_law_823 rfl ?_
  refine z_iconst (pc := 825) (v := 1) hC dL_law_825 rfl ?_
  refine z_iadd (pc := 826) hC dL_law_826 ?_
  refine z_scr (pc := 827) hC hx hbs hA (i + 1) (nI_add i 1) (by omega) (by omega) dL_law_827 ?_
  refine z_aload_n (pc := 828) hC 4 dL_law_828 rfl rfl z_isr_r ?_
  refine z_callH (pc := 829) (st := []) hC hX hNC [.ref (g.1 80), .int (xs (i + 1)), .ref (g.1 110)] (kL_height C.2.1 hst g sa N I P J hI.1  (xs (i + 1))) zhL_height zm_3_176 ⟨rfl, rfl⟩ rfl rfl hRm ⟨Nat.le_of_ble_eq_true rfl, Nat.le_of_ble_eq_true rfl⟩ (Nat.le_of_ble_eq_true rfl) ⟨(by show kc + 2 ≤ 601024; omega), (by show ks + 12 ≤ 7293034; omega)⟩ dL_law_829 (fun v I1 P1 J1 hv => ?_)
  obtain ⟨c, hvc⟩ := zLV_int hv
  subst hvc
  have hmd : zMd σ I1 := by
    rcases hv with ⟨-, r, K1, -, hp⟩ | ⟨i9, k9, -, -, hp⟩
    · exact hI.md hp.2.2
    · exact hI.md hp.2.2
  show zJ C g N 7 (kc + 2) (ks + 12) I1 P1 J1 832 [(4, .int (nI i)), (0, .ref b), (1, .ref (g.1 80)), (2, .ref (g.1 95)), (3, .ref (g.1 110))] [.int c]
  refine z_istore (pc := 832) (lv' := [(5, .int c), (4, .int (nI i)), (0, .ref b), (1, .ref (g.1 80)), (2, .ref (g.1 95)), (3, .ref (g.1 110))]) hC dL_law_832 (by decide) rfl ?_
  refine z_aload_n (pc := 834) hC 4 dL_law_834 rfl rfl z_isr_r ?_
  refine z_aload_n (pc := 835) hC 2 dL_law_835 rfl rfl z_isr_r ?_
  refine z_iload (pc := 836) hC 1 dL_law_836 rfl ?_
  refine z_iconst (pc := 838) (v := 1) hC dL_law_838 rfl ?_
  refine z_iadd (pc := 839) hC dL_law_839 ?_
  refine z_scr (pc := 840) hC hx hbs hA (i + 1) (nI_add i 1) (by omega) (by omega) dL_law_840 ?_
  refine z_callV (pc := 841) (st := []) hC [.int (xs (i + 1))] (kR6_height C.2.1 g N I1 P1 J1 hmd (xs (i + 1))) rfl (z_lt hC (by decide)) rfl zkX6_height zm_5_102 ⟨rfl, rfl⟩ rfl rfl hRm ⟨Nat.le_of_ble_eq_true rfl, Nat.le_of_ble_eq_true rfl⟩ (Nat.le_of_ble_eq_true rfl) ⟨(by show kc + 2 + 0 ≤ 601024; omega), (by show ks + 12 + 0 ≤ 7293034; omega)⟩ dL_law_841 ?_
  intro w9 I2 P2 J2 hw
  obtain ⟨b9, hwb⟩ := hw.1
  subst hwb
  obtain ⟨ht, hout, σ2, hLI⟩ := (zLq_get hI hv hw).go
  show zJ C g N 7 (kc + 2) (ks + 12) I2 P2 J2 844 [(5, .int c), (4, .int (nI i)), (0, .ref b), (1, .ref (g.1 80)), (2, .ref (g.1 95)), (3, .ref (g.1 110))] [.int b9]
  refine z_istore (pc := 844) (lv' := [(6, .int b9), (5, .int c), (4, .int (nI i)), (0, .ref b), (1, .ref (g.1 80)), (2, .ref (g.1 95)), (3, .ref (g.1 110))]) hC dL_law_844 (by decide) rfl ?_
  refine z_aload_n (pc := 846) hC 5 dL_law_846 rfl rfl z_isr_r ?_
  refine z_cV (pc := 847) (st := []) hC [] (kX6_thrown C.2.1 g N I2 P2 J2 c ht) rfl (z_lt hC (by decide)) rfl zkX6_thrown zm_4_123 ⟨rfl, rfl⟩ rfl rfl hRm ⟨Nat.le_of_ble_eq_true rfl, Nat.le_of_ble_eq_true rfl⟩ (Nat.le_of_ble_eq_true rfl) ⟨(by show kc + 2 + 0 ≤ 601024; omega), (by show ks + 12 + 0 ≤ 7293034; omega)⟩ dL_law_847 ?_
  refine z_iload (pc := 850) hC 1 dL_law_850 rfl ?_
  refine z_icmp_eq (pc := 852) (tgt := 857) hC dL_law_852 (by decide) (fun h852 => ?_) (fun h852 => ?_)
  · skip
    refine z_iload (pc := 857) hC 1 dL_law_857 rfl ?_
    refine z_if_ne (pc := 859) (tgt := 874) hC dL_law_859 (by decide) (fun h859 => ?_) (fun h859 => ?_)
    · skip
      refine z_goto (pc := 874) (tgt := 1334) hC dL_law_874 (by decide) ?_
      refine z_lvs (lv' := [(4, .int (nI i)), (0, .ref b), (1, .ref (g.1 80)), (2, .ref (g.1 95)), (3, .ref (g.1 110))]) [2, 3, 4, 5, 6] rfl ?_
      refine z_widen (k := kc + 50) (n := ks + 1000) (by omega) (by omega) ?_
      exact hkk g.1 N σ2 τ I2 P2 J2 hG (fun _ _ => rfl) (Nat.le_refl _) hLI
    · skip
      have hc0 : c = 0 := h859
      refine z_aload_n (pc := 862) hC 6 dL_law_862 rfl rfl z_isr_r ?_
      refine z_iconst (pc := 863) (v := 0) hC dL_law_863 rfl ?_
      refine z_laN (pc := 864) hC 0 (x := J2 110 0) rfl (z_lt hC (by decide)) rfl (by decide) (by decide) rfl dL_law_864 ?_
      refine z_iload (pc := 865) hC 0 dL_law_865 rfl ?_
      refine z_i2l (pc := 867) hC dL_law_867 ?_
      refine z_lcmp (pc := 868) hC dL_law_868 ?_
      refine z_if_eq (pc := 869) (tgt := 874) hC dL_law_869 (by decide) (fun h869 => ?_) (fun h869 => ?_)
      · skip
        refine z_goto (pc := 874) (tgt := 1334) hC dL_law_874 (by decide) ?_
        refine z_lvs (lv' := [(4, .int (nI i)), (0, .ref b), (1, .ref (g.1 80)), (2, .ref (g.1 95)), (3, .ref (g.1 110))]) [2, 3, 4, 5, 6] rfl ?_
        refine z_widen (k := kc + 50) (n := ks + 1000) (by omega) (by omega) ?_
        exact hkk g.1 N σ2 τ I2 P2 J2 hG (fun _ _ => rfl) (Nat.le_refl _) hLI
      · skip
        exact absurd (by rw [hout hc0]; exact lg_cmp_self _) h869
  · skip
    exact absurd rfl h852
theorem zLw_naturalWidth {C : zC} {g : zG} {sa : Nat → Nat} {N b L i kc ks : Nat} {xs : Nat → Int32} {σ : zS} {τ : Nat → zS} {I : Nat → Nat → Int32} {P : Nat → Nat → Option Nat} {J : Nat → Nat → Int64} (hLC : zLC C g sa N b L xs) (hi : i + 4 ≤ L) (hcb : kc + 50 ≤ 601024) (hsb : ks + 1000 ≤ 7293034) (hI : zLI N σ τ I P) (hkk : zLK C g N kc ks b i) : zJ C g N 7 kc ks I P J 877 [(4, .int (nI i)), (0, .ref b), (1, .ref (g.1 80)), (2, .ref (g.1 95)), (3, .ref (g.1 110))] [] := by
  obtain ⟨hC, hX, hNC, hAO, hst, hRm, hx, hbs, hA, hL⟩ := id hLC
  have hG := hC.2.2.2.2.2.2
  refine z_aload_n (pc := 877) hC 2 dL_law_877 rfl rfl z_isr_r ?_
  refine z_aload_n (pc := 878) hC 1 dL_law_878 rfl rfl z_isr_r ?_
  refine z_iload (pc := 879) hC 0 dL_law_879 rfl ?_
  refine z_iconst (pc := 881) (v := 1) hC dL_law_881 rfl ?_
  refine z_iadd (pc := 882) hC dL_law_882 ?_
  refine z_scr (pc := 883) hC hx hbs hA (i + 1) (nI_add i 1) (by omega) (by omega) dL_law_883 ?_
  refine z_aload_n (pc := 884) hC 4 dL_law_884 rfl rfl z_isr_r ?_
  refine z_callH (pc := 885) (st := []) hC hX hNC [.ref (g.1 80), .int (xs (i + 1)), .ref (g.1 110)] (kL_naturalWidth C.2.1 hst g sa N I P J hI.1  (xs (i + 1))) zhL_naturalWidth zm_3_183 ⟨rfl, rfl⟩ rfl rfl hRm ⟨Nat.le_of_ble_eq_true rfl, Nat.le_of_ble_eq_true rfl⟩ (Nat.le_of_ble_eq_true rfl) ⟨(by show kc + 2 ≤ 601024; omega), (by show ks + 12 ≤ 7293034; omega)⟩ dL_law_885 (fun v I1 P1 J1 hv => ?_)
  obtain ⟨c, hvc⟩ := zLV_int hv
  subst hvc
  have hmd : zMd σ I1 := by
    rcases hv with ⟨-, r, K1, -, hp⟩ | ⟨i9, k9, -, -, hp⟩
    · exact hI.md hp.2.2
    · exact hI.md hp.2.2
  show zJ C g N 7 (kc + 2) (ks + 12) I1 P1 J1 888 [(4, .int (nI i)), (0, .ref b), (1, .ref (g.1 80)), (2, .ref (g.1 95)), (3, .ref (g.1 110))] [.int c]
  refine z_istore (pc := 888) (lv' := [(5, .int c), (4, .int (nI i)), (0, .ref b), (1, .ref (g.1 80)), (2, .ref (g.1 95)), (3, .ref (g.1 110))]) hC dL_law_888 (by decide) rfl ?_
  refine z_aload_n (pc := 890) hC 4 dL_law_890 rfl rfl z_isr_r ?_
  refine z_aload_n (pc := 891) hC 2 dL_law_891 rfl rfl z_isr_r ?_
  refine z_iload (pc := 892) hC 1 dL_law_892 rfl ?_
  refine z_iconst (pc := 894) (v := 1) hC dL_law_894 rfl ?_
  refine z_iadd (pc := 895) hC dL_law_895 ?_
  refine z_scr (pc := 896) hC hx hbs hA (i + 1) (nI_add i 1) (by omega) (by omega) dL_law_896 ?_
  refine z_callV (pc := 897) (st := []) hC [.int (xs (i + 1))] (kR6_naturalWidth C.2.1 g N I1 P1 J1 hmd (xs (i + 1))) rfl (z_lt hC (by decide)) rfl zkX6_naturalWidth zm_5_106 ⟨rfl, rfl⟩ rfl rfl hRm ⟨Nat.le_of_ble_eq_true rfl, Nat.le_of_ble_eq_true rfl⟩ (Nat.le_of_ble_eq_true rfl) ⟨(by show kc + 2 + 0 ≤ 601024; omega), (by show ks + 12 + 0 ≤ 7293034; omega)⟩ dL_law_897 ?_
  intro w9 I2 P2 J2 hw
  obtain ⟨b9, hwb⟩ := hw.1
  subst hwb
  obtain ⟨ht, hout, σ2, hLI⟩ := (zLq_get hI hv hw).go
  show zJ C g N 7 (kc + 2) (ks + 12) I2 P2 J2 900 [(5, .int c), (4, .int (nI i)), (0, .ref b), (1, .ref (g.1 80)), (2, .ref (g.1 95)), (3, .ref (g.1 110))] [.int b9]
  refine z_istore (pc := 900) (lv' := [(6, .int b9), (5, .int c), (4, .int (nI i)), (0, .ref b), (1, .ref (g.1 80)), (2, .ref (g.1 95)), (3, .ref (g.1 110))]) hC dL_law_900 (by decide) rfl ?_
  refine z_aload_n (pc := 902) hC 5 dL_law_902 rfl rfl z_isr_r ?_
  refine z_cV (pc := 903) (st := []) hC [] (kX6_thrown C.2.1 g N I2 P2 J2 c ht) rfl (z_lt hC (by decide)) rfl zkX6_thrown zm_4_123 ⟨rfl, rfl⟩ rfl rfl hRm ⟨Nat.le_of_ble_eq_true rfl, Nat.le_of_ble_eq_true rfl⟩ (Nat.le_of_ble_eq_true rfl) ⟨(by show kc + 2 + 0 ≤ 601024; omega), (by show ks + 12 + 0 ≤ 7293034; omega)⟩ dL_law_903 ?_
  refine z_iload (pc := 906) hC 1 dL_law_906 rfl ?_
  refine z_icmp_eq (pc := 908) (tgt := 913) hC dL_law_908 (by decide) (fun h908 => ?_) (fun h908 => ?_)
  · skip
    refine z_iload (pc := 913) hC 1 dL_law_913 rfl ?_
    refine z_if_ne (pc := 915) (tgt := 930) hC dL_law_915 (by decide) (fun h915 => ?_) (fun h915 => ?_)
    · skip
      refine z_goto (pc := 930) (tgt := 1334) hC dL_law_930 (by decide) ?_
      refine z_lvs (lv' := [(4, .int (nI i)), (0, .ref b), (1, .ref (g.1 80)), (2, .ref (g.1 95)), (3, .ref (g.1 110))]) [2, 3, 4, 5, 6] rfl ?_
      refine z_widen (k := kc + 50) (n := ks + 1000) (by omega) (by omega) ?_
      exact hkk g.1 N σ2 τ I2 P2 J2 hG (fun _ _ => rfl) (Nat.le_refl _) hLI
    · skip
      have hc0 : c = 0 := h915
      refine z_aload_n (pc := 918) hC 6 dL_law_918 rfl rfl z_isr_r ?_
      refine z_iconst (pc := 919) (v := 0) hC dL_law_919 rfl ?_
      refine z_laN (pc := 920) hC 0 (x := J2 110 0) rfl (z_lt hC (by decide)) rfl (by decide) (by decide) rfl dL_law_920 ?_
      refine z_iload (pc := 921) hC 0 dL_law_921 rfl ?_
      refine z_i2l (pc := 923) hC dL_law_923 ?_
      refine z_lcmp (pc := 924) hC dL_law_924 ?_
      refine z_if_eq (pc := 925) (tgt := 930) hC dL_law_925 (by decide) (fun h925 => ?_) (fun h925 => ?_)
      · skip
        refine z_goto (pc := 930) (tgt := 1334) hC dL_law_930 (by decide) ?_
        refine z_lvs (lv' := [(4, .int (nI i)), (0, .ref b), (1, .ref (g.1 80)), (2, .ref (g.1 95)), (3, .ref (g.1 110))]) [2, 3, 4, 5, 6] rfl ?_
        refine z_widen (k := kc + 50) (n := ks + 1000) (by omega) (by omega) ?_
        exact hkk g.1 N σ2 τ I2 P2 J2 hG (fun _ _ => rfl) (Nat.le_refl _) hLI
      · skip
        exact absurd (by rw [hout hc0]; exact lg_cmp_self _) h925
  · skip
    exact absurd rfl h908
theorem zLw_naturalHeight {C : zC} {g : zG} {sa : Nat → Nat} {N b L i kc ks : Nat} {xs : Nat → Int32} {σ : zS} {τ : Nat → zS} {I : Nat → Nat → Int32} {P : Nat → Nat → Option Nat} {J : Nat → Nat → Int64} (hLC : zLC C g sa N b L xs) (hi : i + 4 ≤ L) (hcb : kc + 50 ≤ 601024) (hsb : ks + 1000 ≤ 7293034) (hI : zLI N σ τ I P) (hkk : zLK C g N kc ks b i) : zJ C g N 7 kc ks I P J 933 [(4, .int (nI i)), (0, .ref b), (1, .ref (g.1 80)), (2, .ref (g.1 95)), (3, .ref (g.1 110))] [] := by
  obtain ⟨hC, hX, hNC, hAO, hst, hRm, hx, hbs, hA, hL⟩ := id hLC
  have hG := hC.2.2.2.2.2.2
  refine z_aload_n (pc := 933) hC 2 dL_law_933 rfl rfl z_isr_r ?_
  refine z_aload_n (pc := 934) hC 1 dL_law_934 rfl rfl z_isr_r ?_
  refine z_iload (pc := 935) hC 0 dL_law_935 rfl ?_
  refine z_iconst (pc := 937) (v := 1) hC dL_law_937 rfl ?_
  refine z_iadd (pc := 938) hC dL_law_938 ?_
  refine z_scr (pc := 939) hC hx hbs hA (i + 1) (nI_add i 1) (by omega) (by omega) dL_law_939 ?_
  refine z_aload_n (pc := 940) hC 4 dL_law_940 rfl rfl z_isr_r ?_
  refine z_callH (pc := 941) (st := []) hC hX hNC [.ref (g.1 80), .int (xs (i + 1)), .ref (g.1 110)] (kL_naturalHeight C.2.1 hst g sa N I P J hI.1  (xs (i + 1))) zhL_naturalHeight zm_3_190 ⟨rfl, rfl⟩ rfl rfl hRm ⟨Nat.le_of_ble_eq_true rfl, Nat.le_of_ble_eq_true rfl⟩ (Nat.le_of_ble_eq_true rfl) ⟨(by show kc + 2 ≤ 601024; omega), (by show ks + 12 ≤ 7293034; omega)⟩ dL_law_941 (fun v I1 P1 J1 hv => ?_)
  obtain ⟨c, hvc⟩ := zLV_int hv
  subst hvc
  have hmd : zMd σ I1 := by
    rcases hv with ⟨-, r, K1, -, hp⟩ | ⟨i9, k9, -, -, hp⟩
    · exact hI.md hp.2.2
    · exact hI.md hp.2.2
  show zJ C g N 7 (kc + 2) (ks + 12) I1 P1 J1 944 [(4, .int (nI i)), (0, .ref b), (1, .ref (g.1 80)), (2, .ref (g.1 95)), (3, .ref (g.1 110))] [.int c]
  refine z_istore (pc := 944) (lv' := [(5, .int c), (4, .int (nI i)), (0, .ref b), (1, .ref (g.1 80)), (2, .ref (g.1 95)), (3, .ref (g.1 110))]) hC dL_law_944 (by decide) rfl ?_
  refine z_aload_n (pc := 946) hC 4 dL_law_946 rfl rfl z_isr_r ?_
  refine z_aload_n (pc := 947) hC 2 dL_law_947 rfl rfl z_isr_r ?_
  refine z_iload (pc := 948) hC 1 dL_law_948 rfl ?_
  refine z_iconst (pc := 950) (v := 1) hC dL_law_950 rfl ?_
  refine z_iadd (pc := 951) hC dL_law_951 ?_
  refine z_scr (pc := 952) hC hx hbs hA (i + 1) (nI_add i 1) (by omega) (by omega) dL_law_952 ?_
  refine z_callV (pc := 953) (st := []) hC [.int (xs (i + 1))] (kR6_naturalHeight C.2.1 g N I1 P1 J1 hmd (xs (i + 1))) rfl (z_lt hC (by decide)) rfl zkX6_naturalHeight zm_5_110 ⟨rfl, rfl⟩ rfl rfl hRm ⟨Nat.le_of_ble_eq_true rfl, Nat.le_of_ble_eq_true rfl⟩ (Nat.le_of_ble_eq_true rfl) ⟨(by show kc + 2 + 0 ≤ 601024; omega), (by show ks + 12 + 0 ≤ 7293034; omega)⟩ dL_law_953 ?_
  intro w9 I2 P2 J2 hw
  obtain ⟨b9, hwb⟩ := hw.1
  subst hwb
  obtain ⟨ht, hout, σ2, hLI⟩ := (zLq_get hI hv hw).go
  show zJ C g N 7 (kc + 2) (ks + 12) I2 P2 J2 956 [(5, .int c), (4, .int (nI i)), (0, .ref b), (1, .ref (g.1 80)), (2, .ref (g.1 95)), (3, .ref (g.1 110))] [.int b9]
  refine z_istore (pc := 956) (lv' := [(6, .int b9), (5, .int c), (4, .int (nI i)), (0, .ref b), (1, .ref (g.1 80)), (2, .ref (g.1 95)), (3, .ref (g.1 110))]) hC dL_law_956 (by decide) rfl ?_
  refine z_aload_n (pc := 958) hC 5 dL_law_958 rfl rfl z_isr_r ?_
  refine z_cV (pc := 959) (st := []) hC [] (kX6_thrown C.2.1 g N I2 P2 J2 c ht) rfl (z_lt hC (by decide)) rfl zkX6_thrown zm_4_123 ⟨rfl, rfl⟩ rfl rfl hRm ⟨Nat.le_of_ble_eq_true rfl, Nat.le_of_ble_eq_true rfl⟩ (Nat.le_of_ble_eq_true rfl) ⟨(by show kc + 2 + 0 ≤ 601024; omega), (by show ks + 12 + 0 ≤ 7293034; omega)⟩ dL_law_959 ?_
  refine z_iload (pc := 962) hC 1 dL_law_962 rfl ?_
  refine z_icmp_eq (pc := 964) (tgt := 969) hC dL_law_964 (by decide) (fun h964 => ?_) (fun h964 => ?_)
  · skip
    refine z_iload (pc := 969) hC 1 dL_law_969 rfl ?_
    refine z_if_ne (pc := 971) (tgt := 986) hC dL_law_971 (by decide) (fun h971 => ?_) (fun h971 => ?_)
    · skip
      refine z_goto (pc := 986) (tgt := 1334) hC dL_law_986 (by decide) ?_
      refine z_lvs (lv' := [(4, .int (nI i)), (0, .ref b), (1, .ref (g.1 80)), (2, .ref (g.1 95)), (3, .ref (g.1 110))]) [2, 3, 4, 5, 6] rfl ?_
      refine z_widen (k := kc + 50) (n := ks + 1000) (by omega) (by omega) ?_
      exact hkk g.1 N σ2 τ I2 P2 J2 hG (fun _ _ => rfl) (Nat.le_refl _) hLI
    · skip
      have hc0 : c = 0 := h971
      refine z_aload_n (pc := 974) hC 6 dL_law_974 rfl rfl z_isr_r ?_
      refine z_iconst (pc := 975) (v := 0) hC dL_law_975 rfl ?_
      refine z_laN (pc := 976) hC 0 (x := J2 110 0) rfl (z_lt hC (by decide)) rfl (by decide) (by decide) rfl dL_law_976 ?_
      refine z_iload (pc := 977) hC 0 dL_law_977 rfl ?_
      refine z_i2l (pc := 979) hC dL_law_979 ?_
      refine z_lcmp (pc := 980) hC dL_law_980 ?_
      refine z_if_eq (pc := 981) (tgt := 986) hC dL_law_981 (by decide) (fun h981 => ?_) (fun h981 => ?_)
      · skip
        refine z_goto (pc := 986) (tgt := 1334) hC dL_law_986 (by decide) ?_
        refine z_lvs (lv' := [(4, .int (nI i)), (0, .ref b), (1, .ref (g.1 80)), (2, .ref (g.1 95)), (3, .ref (g.1 110))]) [2, 3, 4, 5, 6] rfl ?_
        refine z_widen (k := kc + 50) (n := ks + 1000) (by omega) (by omega) ?_
        exact hkk g.1 N σ2 τ I2 P2 J2 hG (fun _ _ => rfl) (Nat.le_refl _) hLI
      · skip
        exact absurd (by rw [hout hc0]; exact lg_cmp_self _) h981
  · skip
    exact absurd rfl h964
theorem zLw_lines {C : zC} {g : zG} {sa : Nat → Nat} {N b L i kc ks : Nat} {xs : Nat → Int32} {σ : zS} {τ : Nat → zS} {I : Nat → Nat → Int32} {P : Nat → Nat → Option Nat} {J : Nat → Nat → Int64} (hLC : zLC C g sa N b L xs) (hi : i + 4 ≤ L) (hcb : kc + 50 ≤ 601024) (hsb : ks + 1000 ≤ 7293034) (hI : zLI N σ τ I P) (hkk : zLK C g N kc ks b i) : zJ C g N 7 kc ks I P J 989 [(4, .int (nI i)), (0, .ref b), (1, .ref (g.1 80)), (2, .ref (g.1 95)), (3, .ref (g.1 110))] [] := by
  obtain ⟨hC, hX, hNC, hAO, hst, hRm, hx, hbs, hA, hL⟩ := id hLC
  have hG := hC.2.2.2.2.2.2
  refine z_aload_n (pc := 989) hC 2 dL_law_989 rfl rfl z_isr_r ?_
  refine z_aload_n (pc := 990) hC 1 dL_law_990 rfl rfl z_isr_r ?_
  refine z_iload (pc := 991) hC 0 dL_law_991 rfl ?_
  refine z_iconst (pc := 993) (v := 1) hC dL_law_993 rfl ?_
  refine z_iadd (pc := 994) hC dL_law_994 ?_
  refine z_scr (pc := 995) hC hx hbs hA (i + 1) (nI_add i 1) (by omega) (by omega) dL_law_995 ?_
  refine z_aload_n (pc := 996) hC 4 dL_law_996 rfl rfl z_isr_r ?_
  refine z_callH (pc := 997) (st := []) hC hX hNC [.ref (g.1 80), .int (xs (i + 1)), .ref (g.1 110)] (kL_lines C.2.1 hst g sa N I P J hI.1  (xs (i + 1))) zhL_lines zm_3_197 ⟨rfl, rfl⟩ rfl rfl hRm ⟨Nat.le_of_ble_eq_true rfl, Nat.le_of_ble_eq_true rfl⟩ (Nat.le_of_ble_eq_true rfl) ⟨(by show kc + 2 ≤ 601024; omega), (by show ks + 12 ≤ 7293034; omega)⟩ dL_law_997 (fun v I1 P1 J1 hv => ?_)
  obtain ⟨c, hvc⟩ := zLV_int hv
  subst hvc
  have hmd : zMd σ I1 := by
    rcases hv with ⟨-, r, K1, -, hp⟩ | ⟨i9, k9, -, -, hp⟩
    · exact hI.md hp.2.2
    · exact hI.md hp.2.2
  show zJ C g N 7 (kc + 2) (ks + 12) I1 P1 J1 1000 [(4, .int (nI i)), (0, .ref b), (1, .ref (g.1 80)), (2, .ref (g.1 95)), (3, .ref (g.1 110))] [.int c]
  refine z_istore (pc := 1000) (lv' := [(5, .int c), (4, .int (nI i)), (0, .ref b), (1, .ref (g.1 80)), (2, .ref (g.1 95)), (3, .ref (g.1 110))]) hC dL_law_1000 (by decide) rfl ?_
  refine z_aload_n (pc := 1002) hC 4 dL_law_1002 rfl rfl z_isr_r ?_
  refine z_aload_n (pc := 1003) hC 2 dL_law_1003 rfl rfl z_isr_r ?_
  refine z_iload (pc := 1004) hC 1 dL_law_1004 rfl ?_
  refine z_iconst (pc := 1006) (v := 1) hC dL_law_1006 rfl ?_
  refine z_iadd (pc := 1007) hC dL_law_1007 ?_
  refine z_scr (pc := 1008) hC hx hbs hA (i + 1) (nI_add i 1) (by omega) (by omega) dL_law_1008 ?_
  refine z_callV (pc := 1009) (st := []) hC [.int (xs (i + 1))] (kR6_lines C.2.1 g N I1 P1 J1 hmd (xs (i + 1))) rfl (z_lt hC (by decide)) rfl zkX6_lines zm_5_114 ⟨rfl, rfl⟩ rfl rfl hRm ⟨Nat.le_of_ble_eq_true rfl, Nat.le_of_ble_eq_true rfl⟩ (Nat.le_of_ble_eq_true rfl) ⟨(by show kc + 2 + 0 ≤ 601024; omega), (by show ks + 12 + 0 ≤ 7293034; omega)⟩ dL_law_1009 ?_
  intro w9 I2 P2 J2 hw
  obtain ⟨b9, hwb⟩ := hw.1
  subst hwb
  obtain ⟨ht, hout, σ2, hLI⟩ := (zLq_get hI hv hw).go
  show zJ C g N 7 (kc + 2) (ks + 12) I2 P2 J2 1012 [(5, .int c), (4, .int (nI i)), (0, .ref b), (1, .ref (g.1 80)), (2, .ref (g.1 95)), (3, .ref (g.1 110))] [.int b9]
  refine z_istore (pc := 1012) (lv' := [(6, .int b9), (5, .int c), (4, .int (nI i)), (0, .ref b), (1, .ref (g.1 80)), (2, .ref (g.1 95)), (3, .ref (g.1 110))]) hC dL_law_1012 (by decide) rfl ?_
  refine z_aload_n (pc := 1014) hC 5 dL_law_1014 rfl rfl z_isr_r ?_
  refine z_cV (pc := 1015) (st := []) hC [] (kX6_thrown C.2.1 g N I2 P2 J2 c ht) rfl (z_lt hC (by decide)) rfl zkX6_thrown zm_4_123 ⟨rfl, rfl⟩ rfl rfl hRm ⟨Nat.le_of_ble_eq_true rfl, Nat.le_of_ble_eq_true rfl⟩ (Nat.le_of_ble_eq_true rfl) ⟨(by show kc + 2 + 0 ≤ 601024; omega), (by show ks + 12 + 0 ≤ 7293034; omega)⟩ dL_law_1015 ?_
  refine z_iload (pc := 1018) hC 1 dL_law_1018 rfl ?_
  refine z_icmp_eq (pc := 1020) (tgt := 1025) hC dL_law_1020 (by decide) (fun h1020 => ?_) (fun h1020 => ?_)
  · skip
    refine z_iload (pc := 1025) hC 1 dL_law_1025 rfl ?_
    refine z_if_ne (pc := 1027) (tgt := 1042) hC dL_law_1027 (by decide) (fun h1027 => ?_) (fun h1027 => ?_)
    · skip
      refine z_goto (pc := 1042) (tgt := 1334) hC dL_law_1042 (by decide) ?_
      refine z_lvs (lv' := [(4, .int (nI i)), (0, .ref b), (1, .ref (g.1 80)), (2, .ref (g.1 95)), (3, .ref (g.1 110))]) [2, 3, 4, 5, 6] rfl ?_
      refine z_widen (k := kc + 50) (n := ks + 1000) (by omega) (by omega) ?_
      exact hkk g.1 N σ2 τ I2 P2 J2 hG (fun _ _ => rfl) (Nat.le_refl _) hLI
    · skip
      have hc0 : c = 0 := h1027
      refine z_aload_n (pc := 1030) hC 6 dL_law_1030 rfl rfl z_isr_r ?_
      refine z_iconst (pc := 1031) (v := 0) hC dL_law_1031 rfl ?_
      refine z_laN (pc := 1032) hC 0 (x := J2 110 0) rfl (z_lt hC (by decide)) rfl (by decide) (by decide) rfl dL_law_1032 ?_
      refine z_iload (pc := 1033) hC 0 dL_law_1033 rfl ?_
      refine z_i2l (pc := 1035) hC dL_law_1035 ?_
      refine z_lcmp (pc := 1036) hC dL_law_1036 ?_
      refine z_if_eq (pc := 1037) (tgt := 1042) hC dL_law_1037 (by decide) (fun h1037 => ?_) (fun h1037 => ?_)
      · skip
        refine z_goto (pc := 1042) (tgt := 1334) hC dL_law_1042 (by decide) ?_
        refine z_lvs (lv' := [(4, .int (nI i)), (0, .ref b), (1, .ref (g.1 80)), (2, .ref (g.1 95)), (3, .ref (g.1 110))]) [2, 3, 4, 5, 6] rfl ?_
        refine z_widen (k := kc + 50) (n := ks + 1000) (by omega) (by omega) ?_
        exact hkk g.1 N σ2 τ I2 P2 J2 hG (fun _ _ => rfl) (Nat.le_refl _) hLI
      · skip
        exact absurd (by rw [hout hc0]; exact lg_cmp_self _) h1037
  · skip
    exact absurd rfl h1020
theorem zLw_lineOf {C : zC} {g : zG} {sa : Nat → Nat} {N b L i kc ks : Nat} {xs : Nat → Int32} {σ : zS} {τ : Nat → zS} {I : Nat → Nat → Int32} {P : Nat → Nat → Option Nat} {J : Nat → Nat → Int64} (hLC : zLC C g sa N b L xs) (hi : i + 4 ≤ L) (hcb : kc + 50 ≤ 601024) (hsb : ks + 1000 ≤ 7293034) (hI : zLI N σ τ I P) (hkk : zLK C g N kc ks b i) : zJ C g N 7 kc ks I P J 1045 [(4, .int (nI i)), (0, .ref b), (1, .ref (g.1 80)), (2, .ref (g.1 95)), (3, .ref (g.1 110))] [] := by
  obtain ⟨hC, hX, hNC, hAO, hst, hRm, hx, hbs, hA, hL⟩ := id hLC
  have hG := hC.2.2.2.2.2.2
  refine z_aload_n (pc := 1045) hC 2 dL_law_1045 rfl rfl z_isr_r ?_
  refine z_aload_n (pc := 1046) hC 1 dL_law_1046 rfl rfl z_isr_r ?_
  refine z_iload (pc := 1047) hC 0 dL_law_1047 rfl ?_
  refine z_iconst (pc := 1049) (v := 1) hC dL_law_1049 rfl ?_
  refine z_iadd (pc := 1050) hC dL_law_1050 ?_
  refine z_scr (pc := 1051) hC hx hbs hA (i + 1) (nI_add i 1) (by omega) (by omega) dL_law_1051 ?_
  refine z_aload_n (pc := 1052) hC 4 dL_law_1052 rfl rfl z_isr_r ?_
  refine z_callH (pc := 1053) (st := []) hC hX hNC [.ref (g.1 80), .int (xs (i + 1)), .ref (g.1 110)] (kL_lineOf C.2.1 hst g sa N I P J hI.1  (xs (i + 1))) zhL_lineOf zm_3_204 ⟨rfl, rfl⟩ rfl rfl hRm ⟨Nat.le_of_ble_eq_true rfl, Nat.le_of_ble_eq_true rfl⟩ (Nat.le_of_ble_eq_true rfl) ⟨(by show kc + 2 ≤ 601024; omega), (by show ks + 12 ≤ 7293034; omega)⟩ dL_law_1053 (fun v I1 P1 J1 hv => ?_)
  obtain ⟨c, hvc⟩ := zLV_int hv
  subst hvc
  have hmd : zMd σ I1 := by
    rcases hv with ⟨-, r, K1, -, hp⟩ | ⟨i9, k9, -, -, hp⟩
    · exact hI.md hp.2.2
    · exact hI.md hp.2.2
  show zJ C g N 7 (kc + 2) (ks + 12) I1 P1 J1 1056 [(4, .int (nI i)), (0, .ref b), (1, .ref (g.1 80)), (2, .ref (g.1 95)), (3, .ref (g.1 110))] [.int c]
  refine z_istore (pc := 1056) (lv' := [(5, .int c), (4, .int (nI i)), (0, .ref b), (1, .ref (g.1 80)), (2, .ref (g.1 95)), (3, .ref (g.1 110))]) hC dL_law_1056 (by decide) rfl ?_
  refine z_aload_n (pc := 1058) hC 4 dL_law_1058 rfl rfl z_isr_r ?_
  refine z_aload_n (pc := 1059) hC 2 dL_law_1059 rfl rfl z_isr_r ?_
  refine z_iload (pc := 1060) hC 1 dL_law_1060 rfl ?_
  refine z_iconst (pc := 1062) (v := 1) hC dL_law_1062 rfl ?_
  refine z_iadd (pc := 1063) hC dL_law_1063 ?_
  refine z_scr (pc := 1064) hC hx hbs hA (i + 1) (nI_add i 1) (by omega) (by omega) dL_law_1064 ?_
  refine z_callV (pc := 1065) (st := []) hC [.int (xs (i + 1))] (kR6_lineOf C.2.1 g N I1 P1 J1 hmd (xs (i + 1))) rfl (z_lt hC (by decide)) rfl zkX6_lineOf zm_5_118 ⟨rfl, rfl⟩ rfl rfl hRm ⟨Nat.le_of_ble_eq_true rfl, Nat.le_of_ble_eq_true rfl⟩ (Nat.le_of_ble_eq_true rfl) ⟨(by show kc + 2 + 0 ≤ 601024; omega), (by show ks + 12 + 0 ≤ 7293034; omega)⟩ dL_law_1065 ?_
  intro w9 I2 P2 J2 hw
  obtain ⟨b9, hwb⟩ := hw.1
  subst hwb
  obtain ⟨ht, hout, σ2, hLI⟩ := (zLq_get hI hv hw).go
  show zJ C g N 7 (kc + 2) (ks + 12) I2 P2 J2 1068 [(5, .int c), (4, .int (nI i)), (0, .ref b), (1, .ref (g.1 80)), (2, .ref (g.1 95)), (3, .ref (g.1 110))] [.int b9]
  refine z_istore (pc := 1068) (lv' := [(6, .int b9), (5, .int c), (4, .int (nI i)), (0, .ref b), (1, .ref (g.1 80)), (2, .ref (g.1 95)), (3, .ref (g.1 110))]) hC dL_law_1068 (by decide) rfl ?_
  refine z_aload_n (pc := 1070) hC 5 dL_law_1070 rfl rfl z_isr_r ?_
  refine z_cV (pc := 1071) (st := []) hC [] (kX6_thrown C.2.1 g N I2 P2 J2 c ht) rfl (z_lt hC (by decide)) rfl zkX6_thrown zm_4_123 ⟨rfl, rfl⟩ rfl rfl hRm ⟨Nat.le_of_ble_eq_true rfl, Nat.le_of_ble_eq_true rfl⟩ (Nat.le_of_ble_eq_true rfl) ⟨(by show kc + 2 + 0 ≤ 601024; omega), (by show ks + 12 + 0 ≤ 7293034; omega)⟩ dL_law_1071 ?_
  refine z_iload (pc := 1074) hC 1 dL_law_1074 rfl ?_
  refine z_icmp_eq (pc := 1076) (tgt := 1081) hC dL_law_1076 (by decide) (fun h1076 => ?_) (fun h1076 => ?_)
  · skip
    refine z_iload (pc := 1081) hC 1 dL_law_1081 rfl ?_
    refine z_if_ne (pc := 1083) (tgt := 1098) hC dL_law_1083 (by decide) (fun h1083 => ?_) (fun h1083 => ?_)
    · skip
      refine z_goto (pc := 1098) (tgt := 1334) hC dL_law_1098 (by decide) ?_
      refine z_lvs (lv' := [(4, .int (nI i)), (0, .ref b), (1, .ref (g.1 80)), (2, .ref (g.1 95)), (3, .ref (g.1 110))]) [2, 3, 4, 5, 6] rfl ?_
      refine z_widen (k := kc + 50) (n := ks + 1000) (by omega) (by omega) ?_
      exact hkk g.1 N σ2 τ I2 P2 J2 hG (fun _ _ => rfl) (Nat.le_refl _) hLI
    · skip
      have hc0 : c = 0 := h1083
      refine z_aload_n (pc := 1086) hC 6 dL_law_1086 rfl rfl z_isr_r ?_
      refine z_iconst (pc := 1087) (v := 0) hC dL_law_1087 rfl ?_
      refine z_laN (pc := 1088) hC 0 (x := J2 110 0) rfl (z_lt hC (by decide)) rfl (by decide) (by decide) rfl dL_law_1088 ?_
      refine z_iload (pc := 1089) hC 0 dL_law_1089 rfl ?_
      refine z_i2l (pc := 1091) hC dL_law_1091 ?_
      refine z_lcmp (pc := 1092) hC dL_law_1092 ?_
      refine z_if_eq (pc := 1093) (tgt := 1098) hC dL_law_1093 (by decide) (fun h1093 => ?_) (fun h1093 => ?_)
      · skip
        refine z_goto (pc := 1098) (tgt := 1334) hC dL_law_1098 (by decide) ?_
        refine z_lvs (lv' := [(4, .int (nI i)), (0, .ref b), (1, .ref (g.1 80)), (2, .ref (g.1 95)), (3, .ref (g.1 110))]) [2, 3, 4, 5, 6] rfl ?_
        refine z_widen (k := kc + 50) (n := ks + 1000) (by omega) (by omega) ?_
        exact hkk g.1 N σ2 τ I2 P2 J2 hG (fun _ _ => rfl) (Nat.le_refl _) hLI
      · skip
        exact absurd (by rw [hout hc0]; exact lg_cmp_self _) h1093
  · skip
    exact absurd rfl h1076
theorem zLw_overflow {C : zC} {g : zG} {sa : Nat → Nat} {N b L i kc ks : Nat} {xs : Nat → Int32} {σ : zS} {τ : Nat → zS} {I : Nat → Nat → Int32} {P : Nat → Nat → Option Nat} {J : Nat → Nat → Int64} (hLC : zLC C g sa N b L xs) (hi : i + 4 ≤ L) (hcb : kc + 50 ≤ 601024) (hsb : ks + 1000 ≤ 7293034) (hI : zLI N σ τ I P) (hkk : zLK C g N kc ks b i) : zJ C g N 7 kc ks I P J 1101 [(4, .int (nI i)), (0, .ref b), (1, .ref (g.1 80)), (2, .ref (g.1 95)), (3, .ref (g.1 110))] [] := by
  obtain ⟨hC, hX, hNC, hAO, hst, hRm, hx, hbs, hA, hL⟩ := id hLC
  have hG := hC.2.2.2.2.2.2
  refine z_aload_n (pc := 1101) hC 2 dL_law_1101 rfl rfl z_isr_r ?_
  refine z_aload_n (pc := 1102) hC 1 dL_law_1102 rfl rfl z_isr_r ?_
  refine z_iload (pc := 1103) hC 0 dL_law_1103 rfl ?_
  refine z_iconst (pc := 1105) (v := 1) hC dL_law_1105 rfl ?_
  refine z_iadd (pc := 1106) hC dL_law_1106 ?_
  refine z_scr (pc := 1107) hC hx hbs hA (i + 1) (nI_add i 1) (by omega) (by omega) dL_law_1107 ?_
  refine z_aload_n (pc := 1108) hC 4 dL_law_1108 rfl rfl z_isr_r ?_
  refine z_callH (pc := 1109) (st := []) hC hX hNC [.ref (g.1 80), .int (xs (i + 1)), .ref (g.1 110)] (kL_overflow C.2.1 hst g sa N I P J hI.1  (xs (i + 1))) zhL_overflow zm_3_211 ⟨rfl, rfl⟩ rfl rfl hRm ⟨Nat.le_of_ble_eq_true rfl, Nat.le_of_ble_eq_true rfl⟩ (Nat.le_of_ble_eq_true rfl) ⟨(by show kc + 2 ≤ 601024; omega), (by show ks + 12 ≤ 7293034; omega)⟩ dL_law_1109 (fun v I1 P1 J1 hv => ?_)
  obtain ⟨c, hvc⟩ := zLV_int hv
  subst hvc
  have hmd : zMd σ I1 := by
    rcases hv with ⟨-, r, K1, -, hp⟩ | ⟨i9, k9, -, -, hp⟩
    · exact hI.md hp.2.2
    · exact hI.md hp.2.2
  show zJ C g N 7 (kc + 2) (ks + 12) I1 P1 J1 1112 [(4, .int (nI i)), (0, .ref b), (1, .ref (g.1 80)), (2, .ref (g.1 95)), (3, .ref (g.1 110))] [.int c]
  refine z_istore (pc := 1112) (lv' := [(5, .int c), (4, .int (nI i)), (0, .ref b), (1, .ref (g.1 80)), (2, .ref (g.1 95)), (3, .ref (g.1 110))]) hC dL_law_1112 (by decide) rfl ?_
  refine z_aload_n (pc := 1114) hC 4 dL_law_1114 rfl rfl z_isr_r ?_
  refine z_aload_n (pc := 1115) hC 2 dL_law_1115 rfl rfl z_isr_r ?_
  refine z_iload (pc := 1116) hC 1 dL_law_1116 rfl ?_
  refine z_iconst (pc := 1118) (v := 1) hC dL_law_1118 rfl ?_
  refine z_iadd (pc := 1119) hC dL_law_1119 ?_
  refine z_scr (pc := 1120) hC hx hbs hA (i + 1) (nI_add i 1) (by omega) (by omega) dL_law_1120 ?_
  refine z_callV (pc := 1121) (st := []) hC [.int (xs (i + 1))] (kR6_overflow C.2.1 g N I1 P1 J1 hmd (xs (i + 1))) rfl (z_lt hC (by decide)) rfl zkX6_overflow zm_5_122 ⟨rfl, rfl⟩ rfl rfl hRm ⟨Nat.le_of_ble_eq_true rfl, Nat.le_of_ble_eq_true rfl⟩ (Nat.le_of_ble_eq_true rfl) ⟨(by show kc + 2 + 0 ≤ 601024; omega), (by show ks + 12 + 0 ≤ 7293034; omega)⟩ dL_law_1121 ?_
  intro w9 I2 P2 J2 hw
  obtain ⟨b9, hwb⟩ := hw.1
  subst hwb
  obtain ⟨ht, hout, σ2, hLI⟩ := (zLq_get hI hv hw).go
  show zJ C g N 7 (kc + 2) (ks + 12) I2 P2 J2 1124 [(5, .int c), (4, .int (nI i)), (0, .ref b), (1, .ref (g.1 80)), (2, .ref (g.1 95)), (3, .ref (g.1 110))] [.int b9]
  refine z_istore (pc := 1124) (lv' := [(6, .int b9), (5, .int c), (4, .int (nI i)), (0, .ref b), (1, .ref (g.1 80)), (2, .ref (g.1 95)), (3, .ref (g.1 110))]) hC dL_law_1124 (by decide) rfl ?_
  refine z_aload_n (pc := 1126) hC 5 dL_law_1126 rfl rfl z_isr_r ?_
  refine z_cV (pc := 1127) (st := []) hC [] (kX6_thrown C.2.1 g N I2 P2 J2 c ht) rfl (z_lt hC (by decide)) rfl zkX6_thrown zm_4_123 ⟨rfl, rfl⟩ rfl rfl hRm ⟨Nat.le_of_ble_eq_true rfl, Nat.le_of_ble_eq_true rfl⟩ (Nat.le_of_ble_eq_true rfl) ⟨(by show kc + 2 + 0 ≤ 601024; omega), (by show ks + 12 + 0 ≤ 7293034; omega)⟩ dL_law_1127 ?_
  refine z_iload (pc := 1130) hC 1 dL_law_1130 rfl ?_
  refine z_icmp_eq (pc := 1132) (tgt := 1137) hC dL_law_1132 (by decide) (fun h1132 => ?_) (fun h1132 => ?_)
  · skip
    refine z_iload (pc := 1137) hC 1 dL_law_1137 rfl ?_
    refine z_if_ne (pc := 1139) (tgt := 1154) hC dL_law_1139 (by decide) (fun h1139 => ?_) (fun h1139 => ?_)
    · skip
      refine z_goto (pc := 1154) (tgt := 1334) hC dL_law_1154 (by decide) ?_
      refine z_lvs (lv' := [(4, .int (nI i)), (0, .ref b), (1, .ref (g.1 80)), (2, .ref (g.1 95)), (3, .ref (g.1 110))]) [2, 3, 4, 5, 6] rfl ?_
      refine z_widen (k := kc + 50) (n := ks + 1000) (by omega) (by omega) ?_
      exact hkk g.1 N σ2 τ I2 P2 J2 hG (fun _ _ => rfl) (Nat.le_refl _) hLI
    · skip
      have hc0 : c = 0 := h1139
      refine z_aload_n (pc := 1142) hC 6 dL_law_1142 rfl rfl z_isr_r ?_
      refine z_iconst (pc := 1143) (v := 0) hC dL_law_1143 rfl ?_
      refine z_laN (pc := 1144) hC 0 (x := J2 110 0) rfl (z_lt hC (by decide)) rfl (by decide) (by decide) rfl dL_law_1144 ?_
      refine z_iload (pc := 1145) hC 0 dL_law_1145 rfl ?_
      refine z_i2l (pc := 1147) hC dL_law_1147 ?_
      refine z_lcmp (pc := 1148) hC dL_law_1148 ?_
      refine z_if_eq (pc := 1149) (tgt := 1154) hC dL_law_1149 (by decide) (fun h1149 => ?_) (fun h1149 => ?_)
      · skip
        refine z_goto (pc := 1154) (tgt := 1334) hC dL_law_1154 (by decide) ?_
        refine z_lvs (lv' := [(4, .int (nI i)), (0, .ref b), (1, .ref (g.1 80)), (2, .ref (g.1 95)), (3, .ref (g.1 110))]) [2, 3, 4, 5, 6] rfl ?_
        refine z_widen (k := kc + 50) (n := ks + 1000) (by omega) (by omega) ?_
        exact hkk g.1 N σ2 τ I2 P2 J2 hG (fun _ _ => rfl) (Nat.le_refl _) hLI
      · skip
        exact absurd (by rw [hout hc0]; exact lg_cmp_self _) h1149
  · skip
    exact absurd rfl h1132
theorem zLw_hit {C : zC} {g : zG} {sa : Nat → Nat} {N b L i kc ks : Nat} {xs : Nat → Int32} {σ : zS} {τ : Nat → zS} {I : Nat → Nat → Int32} {P : Nat → Nat → Option Nat} {J : Nat → Nat → Int64} (hLC : zLC C g sa N b L xs) (hi : i + 4 ≤ L) (hcb : kc + 50 ≤ 601024) (hsb : ks + 1000 ≤ 7293034) (hI : zLI N σ τ I P) (hkk : zLK C g N kc ks b i) : zJ C g N 7 kc ks I P J 1157 [(4, .int (nI i)), (0, .ref b), (1, .ref (g.1 80)), (2, .ref (g.1 95)), (3, .ref (g.1 110))] [] := by
  obtain ⟨hC, hX, hNC, hAO, hst, hRm, hx, hbs, hA, hL⟩ := id hLC
  have hG := hC.2.2.2.2.2.2
  refine z_aload_n (pc := 1157) hC 2 dL_law_1157 rfl rfl z_isr_r ?_
  refine z_aload_n (pc := 1158) hC 1 dL_law_1158 rfl rfl z_isr_r ?_
  refine z_iload (pc := 1159) hC 0 dL_law_1159 rfl ?_
  refine z_iconst (pc := 1161) (v := 1) hC dL_law_1161 rfl ?_
  refine z_iadd (pc := 1162) hC dL_law_1162 ?_
  refine z_scr (pc := 1163) hC hx hbs hA (i + 1) (nI_add i 1) (by omega) (by omega) dL_law_1163 ?_
  refine z_aload_n (pc := 1164) hC 1 dL_law_1164 rfl rfl z_isr_r ?_
  refine z_iload (pc := 1165) hC 0 dL_law_1165 rfl ?_
  refine z_iconst (pc := 1167) (v := 2) hC dL_law_1167 rfl ?_
  refine z_iadd (pc := 1168) hC dL_law_1168 ?_
  refine z_scr (pc := 1169) hC hx hbs hA (i + 2) (nI_add i 2) (by omega) (by omega) dL_law_1169 ?_
  refine z_callV (pc := 1170) (st := []) hC [.int (xs (i + 1)), .int (xs (i + 2))] (kX5_hit C.2.1 g N I P J hI.1 (xs (i + 1)) (xs (i + 2))) rfl (z_lt hC (by decide)) rfl zkX5_hit zm_1_235 ⟨rfl, rfl⟩ rfl rfl hRm ⟨Nat.le_of_ble_eq_true rfl, Nat.le_of_ble_eq_true rfl⟩ (Nat.le_of_ble_eq_true rfl) ⟨(by show kc + 0 ≤ 601024; omega), (by show ks + 0 ≤ 7293034; omega)⟩ dL_law_1170 ?_
  intro v I1 P1 J1 hv
  obtain ⟨hvv, hc1, hk1⟩ := hv
  subst hvv
  show zJ C g N 7 kc ks I1 P1 J1 1173 [(4, .int (nI i)), (0, .ref b), (1, .ref (g.1 80)), (2, .ref (g.1 95)), (3, .ref (g.1 110))] [.int (sHit σ (xs (i + 1)) (xs (i + 2)))]
  refine z_aload_n (pc := 1173) hC 3 dL_law_1173 rfl rfl z_isr_r ?_
  refine z_aload_n (pc := 1174) hC 1 dL_law_1174 rfl rfl z_isr_r ?_
  refine z_iload (pc := 1175) hC 0 dL_law_1175 rfl ?_
  refine z_iconst (pc := 1177) (v := 1) hC dL_law_1177 rfl ?_
  refine z_iadd (pc := 1178) hC dL_law_1178 ?_
  refine z_scr (pc := 1179) hC hx hbs hA (i + 1) (nI_add i 1) (by omega) (by omega) dL_law_1179 ?_
  refine z_aload_n (pc := 1180) hC 1 dL_law_1180 rfl rfl z_isr_r ?_
  refine z_iload (pc := 1181) hC 0 dL_law_1181 rfl ?_
  refine z_iconst (pc := 1183) (v := 2) hC dL_law_1183 rfl ?_
  refine z_iadd (pc := 1184) hC dL_law_1184 ?_
  refine z_scr (pc := 1185) hC hx hbs hA (i + 2) (nI_add i 2) (by omega) (by omega) dL_law_1185 ?_
  refine z_callV (pc := 1186) (st := [.int (sHit σ (xs (i + 1)) (xs (i + 2)))]) hC [.int (xs (i + 1)), .int (xs (i + 2))] (kX6_hit C.2.1 g N I1 P1 J1 (hI.md hk1) (xs (i + 1)) (xs (i + 2))) rfl (z_lt hC (by decide)) rfl zkX6_hit zm_5_130 ⟨rfl, rfl⟩ rfl rfl hRm ⟨Nat.le_of_ble_eq_true rfl, Nat.le_of_ble_eq_true rfl⟩ (Nat.le_of_ble_eq_true rfl) ⟨(by show kc + 0 ≤ 601024; omega), (by show ks + 0 ≤ 7293034; omega)⟩ dL_law_1186 ?_
  intro v I2 P2 J2 hv
  obtain ⟨hvv, -, hm2, hk2⟩ := hv
  subst hvv
  show zJ C g N 7 kc ks I2 P2 J2 1189 [(4, .int (nI i)), (0, .ref b), (1, .ref (g.1 80)), (2, .ref (g.1 95)), (3, .ref (g.1 110))] [.int (sHit σ (xs (i + 1)) (xs (i + 2))), .int (sHit σ (xs (i + 1)) (xs (i + 2)))]
  refine z_icmp_eq (pc := 1189) (tgt := 1334) hC dL_law_1189 (by decide) (fun h1189 => ?_) (fun h1189 => ?_)
  · skip
    refine z_widen (k := kc + 50) (n := ks + 1000) (by omega) (by omega) ?_
    exact hkk g.1 N σ τ I2 P2 J2 hG (fun _ _ => rfl) (Nat.le_refl _) (zLI_k hI (zKL_of hk1 hk2) (zCl_m hk2 hc1) hm2)
  · skip
    exact absurd rfl h1189
theorem zLw_widthFor {C : zC} {g : zG} {sa : Nat → Nat} {N b L i kc ks : Nat} {xs : Nat → Int32} {σ : zS} {τ : Nat → zS} {I : Nat → Nat → Int32} {P : Nat → Nat → Option Nat} {J : Nat → Nat → Int64} (hLC : zLC C g sa N b L xs) (hi : i + 4 ≤ L) (hcb : kc + 50 ≤ 601024) (hsb : ks + 1000 ≤ 7293034) (hI : zLI N σ τ I P) (hkk : zLK C g N kc ks b i) : zJ C g N 7 kc ks I P J 1194 [(4, .int (nI i)), (0, .ref b), (1, .ref (g.1 80)), (2, .ref (g.1 95)), (3, .ref (g.1 110))] [] := by
  obtain ⟨hC, hX, hNC, hAO, hst, hRm, hx, hbs, hA, hL⟩ := id hLC
  have hG := hC.2.2.2.2.2.2
  refine z_aload_n (pc := 1194) hC 2 dL_law_1194 rfl rfl z_isr_r ?_
  refine z_aload_n (pc := 1195) hC 1 dL_law_1195 rfl rfl z_isr_r ?_
  refine z_iload (pc := 1196) hC 0 dL_law_1196 rfl ?_
  refine z_iconst (pc := 1198) (v := 1) hC dL_law_1198 rfl ?_
  refine z_iadd (pc := 1199) hC dL_law_1199 ?_
  refine z_scr (pc := 1200) hC hx hbs hA (i + 1) (nI_add i 1) (by omega) (by omega) dL_law_1200 ?_
  refine z_aload_n (pc := 1201) hC 1 dL_law_1201 rfl rfl z_isr_r ?_
  refine z_iload (pc := 1202) hC 0 dL_law_1202 rfl ?_
  refine z_iconst (pc := 1204) (v := 2) hC dL_law_1204 rfl ?_
  refine z_iadd (pc := 1205) hC dL_law_1205 ?_
  refine z_scr (pc := 1206) hC hx hbs hA (i + 2) (nI_add i 2) (by omega) (by omega) dL_law_1206 ?_
  refine z_aload_n (pc := 1207) hC 4 dL_law_1207 rfl rfl z_isr_r ?_
  refine z_callH (pc := 1208) (st := []) hC hX hNC [.ref (g.1 80), .int (xs (i + 1)), .int (xs (i + 2)), .ref (g.1 110)] (kL_widthFor C.2.1 hst g sa N I P J hI.1  (xs (i + 1)) (xs (i + 2))) zhL_widthFor zm_3_224 ⟨rfl, rfl⟩ rfl rfl hRm ⟨Nat.le_of_ble_eq_true rfl, Nat.le_of_ble_eq_true rfl⟩ (Nat.le_of_ble_eq_true rfl) ⟨(by show kc + 3 ≤ 601024; omega), (by show ks + 18 ≤ 7293034; omega)⟩ dL_law_1208 (fun v I1 P1 J1 hv => ?_)
  obtain ⟨c, hvc⟩ := zLV_int hv
  subst hvc
  have hmd : zMd σ I1 := by
    rcases hv with ⟨-, r, K1, -, hp⟩ | ⟨i9, k9, -, -, hp⟩
    · exact hI.md hp.2.2
    · exact hI.md hp.2.2
  show zJ C g N 7 (kc + 3) (ks + 18) I1 P1 J1 1211 [(4, .int (nI i)), (0, .ref b), (1, .ref (g.1 80)), (2, .ref (g.1 95)), (3, .ref (g.1 110))] [.int c]
  refine z_istore (pc := 1211) (lv' := [(5, .int c), (4, .int (nI i)), (0, .ref b), (1, .ref (g.1 80)), (2, .ref (g.1 95)), (3, .ref (g.1 110))]) hC dL_law_1211 (by decide) rfl ?_
  refine z_aload_n (pc := 1213) hC 4 dL_law_1213 rfl rfl z_isr_r ?_
  refine z_aload_n (pc := 1214) hC 2 dL_law_1214 rfl rfl z_isr_r ?_
  refine z_iload (pc := 1215) hC 1 dL_law_1215 rfl ?_
  refine z_iconst (pc := 1217) (v := 1) hC dL_law_1217 rfl ?_
  refine z_iadd (pc := 1218) hC dL_law_1218 ?_
  refine z_scr (pc := 1219) hC hx hbs hA (i + 1) (nI_add i 1) (by omega) (by omega) dL_law_1219 ?_
  refine z_aload_n (pc := 1220) hC 2 dL_law_1220 rfl rfl z_isr_r ?_
  refine z_iload (pc := 1221) hC 1 dL_law_1221 rfl ?_
  refine z_iconst (pc := 1223) (v := 2) hC dL_law_1223 rfl ?_
  refine z_iadd (pc := 1224) hC dL_law_1224 ?_
  refine z_scr (pc := 1225) hC hx hbs hA (i + 2) (nI_add i 2) (by omega) (by omega) dL_law_1225 ?_
  refine z_callV (pc := 1226) (st := []) hC [.int (xs (i + 1)), .int (xs (i + 2))] (kR6_widthFor C.2.1 g N I1 P1 J1 hmd (xs (i + 1)) (xs (i + 2))) rfl (z_lt hC (by decide)) rfl zkX6_widthFor zm_5_138 ⟨rfl, rfl⟩ rfl rfl hRm ⟨Nat.le_of_ble_eq_true rfl, Nat.le_of_ble_eq_true rfl⟩ (Nat.le_of_ble_eq_true rfl) ⟨(by show kc + 3 + 0 ≤ 601024; omega), (by show ks + 18 + 0 ≤ 7293034; omega)⟩ dL_law_1226 ?_
  intro w9 I2 P2 J2 hw
  obtain ⟨b9, hwb⟩ := hw.1
  subst hwb
  obtain ⟨ht, hout, σ2, hLI⟩ := (zLq_wf hI hv hw).go
  show zJ C g N 7 (kc + 3) (ks + 18) I2 P2 J2 1229 [(5, .int c), (4, .int (nI i)), (0, .ref b), (1, .ref (g.1 80)), (2, .ref (g.1 95)), (3, .ref (g.1 110))] [.int b9]
  refine z_istore (pc := 1229) (lv' := [(6, .int b9), (5, .int c), (4, .int (nI i)), (0, .ref b), (1, .ref (g.1 80)), (2, .ref (g.1 95)), (3, .ref (g.1 110))]) hC dL_law_1229 (by decide) rfl ?_
  refine z_aload_n (pc := 1231) hC 5 dL_law_1231 rfl rfl z_isr_r ?_
  refine z_cV (pc := 1232) (st := []) hC [] (kX6_thrown C.2.1 g N I2 P2 J2 c ht) rfl (z_lt hC (by decide)) rfl zkX6_thrown zm_4_123 ⟨rfl, rfl⟩ rfl rfl hRm ⟨Nat.le_of_ble_eq_true rfl, Nat.le_of_ble_eq_true rfl⟩ (Nat.le_of_ble_eq_true rfl) ⟨(by show kc + 3 + 0 ≤ 601024; omega), (by show ks + 18 + 0 ≤ 7293034; omega)⟩ dL_law_1232 ?_
  refine z_iload (pc := 1235) hC 1 dL_law_1235 rfl ?_
  refine z_icmp_eq (pc := 1237) (tgt := 1242) hC dL_law_1237 (by decide) (fun h1237 => ?_) (fun h1237 => ?_)
  · skip
    refine z_iload (pc := 1242) hC 1 dL_law_1242 rfl ?_
    refine z_if_ne (pc := 1244) (tgt := 1259) hC dL_law_1244 (by decide) (fun h1244 => ?_) (fun h1244 => ?_)
    · skip
      refine z_goto (pc := 1259) (tgt := 1334) hC dL_law_1259 (by decide) ?_
      refine z_lvs (lv' := [(4, .int (nI i)), (0, .ref b), (1, .ref (g.1 80)), (2, .ref (g.1 95)), (3, .ref (g.1 110))]) [2, 3, 4, 5, 6] rfl ?_
      refine z_widen (k := kc + 50) (n := ks + 1000) (by omega) (by omega) ?_
      exact hkk g.1 N σ2 τ I2 P2 J2 hG (fun _ _ => rfl) (Nat.le_refl _) hLI
    · skip
      have hc0 : c = 0 := h1244
      refine z_aload_n (pc := 1247) hC 6 dL_law_1247 rfl rfl z_isr_r ?_
      refine z_iconst (pc := 1248) (v := 0) hC dL_law_1248 rfl ?_
      refine z_laN (pc := 1249) hC 0 (x := J2 110 0) rfl (z_lt hC (by decide)) rfl (by decide) (by decide) rfl dL_law_1249 ?_
      refine z_iload (pc := 1250) hC 0 dL_law_1250 rfl ?_
      refine z_i2l (pc := 1252) hC dL_law_1252 ?_
      refine z_lcmp (pc := 1253) hC dL_law_1253 ?_
      refine z_if_eq (pc := 1254) (tgt := 1259) hC dL_law_1254 (by decide) (fun h1254 => ?_) (fun h1254 => ?_)
      · skip
        refine z_goto (pc := 1259) (tgt := 1334) hC dL_law_1259 (by decide) ?_
        refine z_lvs (lv' := [(4, .int (nI i)), (0, .ref b), (1, .ref (g.1 80)), (2, .ref (g.1 95)), (3, .ref (g.1 110))]) [2, 3, 4, 5, 6] rfl ?_
        refine z_widen (k := kc + 50) (n := ks + 1000) (by omega) (by omega) ?_
        exact hkk g.1 N σ2 τ I2 P2 J2 hG (fun _ _ => rfl) (Nat.le_refl _) hLI
      · skip
        exact absurd (by rw [hout hc0]; exact lg_cmp_self _) h1254
  · skip
    exact absurd rfl h1237
theorem zLw_save2 {C : zC} {g : zG} {sa : Nat → Nat} {N b L i kc ks : Nat} {xs : Nat → Int32} {I : Nat → Nat → Int32} {P : Nat → Nat → Option Nat} {J : Nat → Nat → Int64} (hLC : zLC C g sa N b L xs) (hi : i + 4 ≤ L) (hcb : kc + 50 ≤ 601024) (hsb : ks + 1000 ≤ 7293034) (c : Int32) (hend : ∀ I2 P2 J2, (P2 = P ∧ J2 = J ∧ ((¬ (0 ≤ xs (i + 1) ∧ xs (i + 1) ≤ 1) ∧ I2 = z_u I 95 3 1) ∨ ∃ t, xs (i + 1) = nI t ∧ t < 2 ∧ I2 = z_u (zcp (z_u I 95 3 0) t 843) 98 t 1)) → I2 95 3 = c ∧ zJ C g N 7 (kc + 50) (ks + 1000) I2 P2 J2 1334 [(4, .int (nI i)), (0, .ref b), (1, .ref (g.1 80)), (2, .ref (g.1 95)), (3, .ref (g.1 110))] []) : zJ C g N 7 (kc + 44) (ks + 926) I P J 1272 [(4, .int (nI i)), (0, .ref b), (1, .ref (g.1 80)), (2, .ref (g.1 95)), (3, .ref (g.1 110))] [.int c] := by
  obtain ⟨hC, hX, hNC, hAO, hst, hRm, hx, hbs, hA, hL⟩ := id hLC
  refine z_istore (pc := 1272) (lv' := [(5, .int c), (4, .int (nI i)), (0, .ref b), (1, .ref (g.1 80)), (2, .ref (g.1 95)), (3, .ref (g.1 110))]) hC dL_law_1272 (by decide) rfl ?_
  refine z_aload_n (pc := 1274) hC 4 dL_law_1274 rfl rfl z_isr_r ?_
  refine z_aload_n (pc := 1275) hC 2 dL_law_1275 rfl rfl z_isr_r ?_
  refine z_iload (pc := 1276) hC 1 dL_law_1276 rfl ?_
  refine z_iconst (pc := 1278) (v := 1) hC dL_law_1278 rfl ?_
  refine z_iadd (pc := 1279) hC dL_law_1279 ?_
  refine z_scr (pc := 1280) hC hx hbs hA (i + 1) (nI_add i 1) (by omega) (by omega) dL_law_1280 ?_
  refine z_callV (pc := 1281) (st := []) hC [.int (xs (i + 1))] (kX6_save C.2.1 g N I P J (xs (i + 1))) rfl (z_lt hC (by decide)) rfl zkX6_save zm_5_142 ⟨rfl, rfl⟩ rfl rfl hRm ⟨Nat.le_of_ble_eq_true rfl, Nat.le_of_ble_eq_true rfl⟩ (Nat.le_of_ble_eq_true rfl) ⟨(by show kc + 44 + 0 ≤ 601024; omega), (by show ks + 926 + 0 ≤ 7293034; omega)⟩ dL_law_1281 ?_
  intro w9 I2 P2 J2 hw
  have hw0 := hw.1
  subst hw0
  obtain ⟨ht, hgo⟩ := hend I2 P2 J2 hw.2
  show zJ C g N 7 (kc + 44) (ks + 926) I2 P2 J2 1284 [(5, .int c), (4, .int (nI i)), (0, .ref b), (1, .ref (g.1 80)), (2, .ref (g.1 95)), (3, .ref (g.1 110))] []
  refine z_aload_n (pc := 1284) hC 4 dL_law_1284 rfl rfl z_isr_r ?_
  refine z_cV (pc := 1285) (st := []) hC [] (kX6_thrown C.2.1 g N I2 P2 J2 c ht) rfl (z_lt hC (by decide)) rfl zkX6_thrown zm_4_123 ⟨rfl, rfl⟩ rfl rfl hRm ⟨Nat.le_of_ble_eq_true rfl, Nat.le_of_ble_eq_true rfl⟩ (Nat.le_of_ble_eq_true rfl) ⟨(by show kc + 44 + 0 ≤ 601024; omega), (by show ks + 926 + 0 ≤ 7293034; omega)⟩ dL_law_1285 ?_
  refine z_iload (pc := 1288) hC 0 dL_law_1288 rfl ?_
  refine z_icmp_eq (pc := 1290) (tgt := 1295) hC dL_law_1290 (by decide) (fun h1290 => ?_) (fun h1290 => ?_)
  · skip
    refine z_goto (pc := 1295) (tgt := 1334) hC dL_law_1295 (by decide) ?_
    refine z_lvs (lv' := [(4, .int (nI i)), (0, .ref b), (1, .ref (g.1 80)), (2, .ref (g.1 95)), (3, .ref (g.1 110))]) [1, 2, 3, 4, 5] rfl ?_
    exact z_widen (k := kc + 50) (n := ks + 1000) (by omega) (by omega) hgo
  · skip
    exact absurd rfl h1290
theorem zLw_save {C : zC} {g : zG} {sa : Nat → Nat} {N b L i kc ks : Nat} {xs : Nat → Int32} {σ : zS} {τ : Nat → zS} {I : Nat → Nat → Int32} {P : Nat → Nat → Option Nat} {J : Nat → Nat → Int64} (hLC : zLC C g sa N b L xs) (hi : i + 4 ≤ L) (hcb : kc + 50 ≤ 601024) (hsb : ks + 1000 ≤ 7293034) (hI : zLI N σ τ I P) (hkk : zLK C g N kc ks b i) : zJ C g N 7 kc ks I P J 1262 [(4, .int (nI i)), (0, .ref b), (1, .ref (g.1 80)), (2, .ref (g.1 95)), (3, .ref (g.1 110))] [] := by
  obtain ⟨hC, hX, hNC, hAO, hst, hRm, hx, hbs, hA, hL⟩ := id hLC
  have hG := hC.2.2.2.2.2.2
  refine z_aload_n (pc := 1262) hC 2 dL_law_1262 rfl rfl z_isr_r ?_
  refine z_aload_n (pc := 1263) hC 1 dL_law_1263 rfl rfl z_isr_r ?_
  refine z_iload (pc := 1264) hC 0 dL_law_1264 rfl ?_
  refine z_iconst (pc := 1266) (v := 1) hC dL_law_1266 rfl ?_
  refine z_iadd (pc := 1267) hC dL_law_1267 ?_
  refine z_scr (pc := 1268) hC hx hbs hA (i + 1) (nI_add i 1) (by omega) (by omega) dL_law_1268 ?_
  refine z_callHG (pc := 1269) (st := []) hC hX hAO hNC [.ref (g.1 80), .int (xs (i + 1))] (kL_save C.2.1 hst g sa N I P J hI.1 hI.2.2.1 (fun t s ht hp => (hI.sl t s ht hp).1) (xs (i + 1))) zhL_save zm_4_3 ⟨rfl, rfl⟩ rfl rfl hRm ⟨Nat.le_of_ble_eq_true rfl, Nat.le_of_ble_eq_true rfl⟩ (Nat.le_of_ble_eq_true rfl) ⟨(by show kc + 44 ≤ 601024; omega), (by show ks + 926 ≤ 7293034; omega)⟩ dL_law_1269 (fun f N1 v I1 P1 J1 hgd hv => ?_)
  obtain ⟨c, hvc⟩ := zLG_int hv
  subst hvc
  have hf : (∀ j, j < N → f j = g.1 j) ∧ N ≤ N1 := by
    rcases hv with ⟨-, -, -, hf, t, s, -, -, -, hs, -, -, -, -, hN⟩ | ⟨hf, hN, -⟩
    · exact ⟨hf, by rcases hN with ⟨q, -⟩ | ⟨q, -⟩ <;> omega⟩
    · exact ⟨fun j _ => by rw [hf], by omega⟩
  have hN1 := hG.1
  rw [← hf.1 80 (by omega), ← hf.1 95 (by omega), ← hf.1 110 (by omega)]
  refine zLw_save2 (g := (f, g.2)) (hLC.to hgd) hi hcb hsb c ?_
  intro I2 P2 J2 hw
  obtain ⟨ht, τ2, hLI⟩ := (zLn_save hI hv hw).go
  refine ⟨ht, ?_⟩
  rw [show ((f, g.2) : zG).1 80 = g.1 80 from hf.1 80 (by omega), show ((f, g.2) : zG).1 95 = g.1 95 from hf.1 95 (by omega), show ((f, g.2) : zG).1 110 = g.1 110 from hf.1 110 (by omega)]
  exact hkk f N1 σ τ2 I2 P2 J2 hgd hf.1 hf.2 hLI
theorem zLw_restore {C : zC} {g : zG} {sa : Nat → Nat} {N b L i kc ks : Nat} {xs : Nat → Int32} {σ : zS} {τ : Nat → zS} {I : Nat → Nat → Int32} {P : Nat → Nat → Option Nat} {J : Nat → Nat → Int64} (hLC : zLC C g sa N b L xs) (hi : i + 4 ≤ L) (hcb : kc + 50 ≤ 601024) (hsb : ks + 1000 ≤ 7293034) (hI : zLI N σ τ I P) (hkk : zLK C g N kc ks b i) : zJ C g N 7 kc ks I P J 1298 [(4, .int (nI i)), (0, .ref b), (1, .ref (g.1 80)), (2, .ref (g.1 95)), (3, .ref (g.1 110))] [] := by
  obtain ⟨hC, hX, hNC, hAO, hst, hRm, hx, hbs, hA, hL⟩ := id hLC
  have hG := hC.2.2.2.2.2.2
  refine z_aload_n (pc := 1298) hC 2 dL_law_1298 rfl rfl z_isr_r ?_
  refine z_aload_n (pc := 1299) hC 1 dL_law_1299 rfl rfl z_isr_r ?_
  refine z_iload (pc := 1300) hC 0 dL_law_1300 rfl ?_
  refine z_iconst (pc := 1302) (v := 1) hC dL_law_1302 rfl ?_
  refine z_iadd (pc := 1303) hC dL_law_1303 ?_
  refine z_scr (pc := 1304) hC hx hbs hA (i + 1) (nI_add i 1) (by omega) (by omega) dL_law_1304 ?_
  refine z_callH (pc := 1305) (st := []) hC hX hNC [.ref (g.1 80), .int (xs (i + 1))] (kL_restore C.2.1 hst g sa N I P J hI.1 τ hI.sl (xs (i + 1))) zhL_restore zm_4_48 ⟨rfl, rfl⟩ rfl rfl hRm ⟨Nat.le_of_ble_eq_true rfl, Nat.le_of_ble_eq_true rfl⟩ (Nat.le_of_ble_eq_true rfl) ⟨(by show kc + 1 ≤ 601024; omega), (by show ks + 6 ≤ 7293034; omega)⟩ dL_law_1305 (fun v I1 P1 J1 hv => ?_)
  obtain ⟨c, hvc⟩ := zLN_int hv
  subst hvc
  show zJ C g N 7 (kc + 1) (ks + 6) I1 P1 J1 1308 [(4, .int (nI i)), (0, .ref b), (1, .ref (g.1 80)), (2, .ref (g.1 95)), (3, .ref (g.1 110))] [.int c]
  refine z_istore (pc := 1308) (lv' := [(5, .int c), (4, .int (nI i)), (0, .ref b), (1, .ref (g.1 80)), (2, .ref (g.1 95)), (3, .ref (g.1 110))]) hC dL_law_1308 (by decide) rfl ?_
  refine z_aload_n (pc := 1310) hC 4 dL_law_1310 rfl rfl z_isr_r ?_
  refine z_aload_n (pc := 1311) hC 2 dL_law_1311 rfl rfl z_isr_r ?_
  refine z_iload (pc := 1312) hC 1 dL_law_1312 rfl ?_
  refine z_iconst (pc := 1314) (v := 1) hC dL_law_1314 rfl ?_
  refine z_iadd (pc := 1315) hC dL_law_1315 ?_
  refine z_scr (pc := 1316) hC hx hbs hA (i + 1) (nI_add i 1) (by omega) (by omega) dL_law_1316 ?_
  refine z_callV (pc := 1317) (st := []) hC [.int (xs (i + 1))] (kX6_restore C.2.1 g N I1 P1 J1 (xs (i + 1))) rfl (z_lt hC (by decide)) rfl zkX6_restore zm_5_146 ⟨rfl, rfl⟩ rfl rfl hRm ⟨Nat.le_of_ble_eq_true rfl, Nat.le_of_ble_eq_true rfl⟩ (Nat.le_of_ble_eq_true rfl) ⟨(by show kc + 1 + 0 ≤ 601024; omega), (by show ks + 6 + 0 ≤ 7293034; omega)⟩ dL_law_1317 ?_
  intro w9 I2 P2 J2 hw
  have hw0 := hw.1
  subst hw0
  obtain ⟨ht, σ2, hLI⟩ := (zLn_rest hI hv hw.2).go
  show zJ C g N 7 (kc + 1) (ks + 6) I2 P2 J2 1320 [(5, .int c), (4, .int (nI i)), (0, .ref b), (1, .ref (g.1 80)), (2, .ref (g.1 95)), (3, .ref (g.1 110))] []
  refine z_aload_n (pc := 1320) hC 4 dL_law_1320 rfl rfl z_isr_r ?_
  refine z_cV (pc := 1321) (st := []) hC [] (kX6_thrown C.2.1 g N I2 P2 J2 c ht) rfl (z_lt hC (by decide)) rfl zkX6_thrown zm_4_123 ⟨rfl, rfl⟩ rfl rfl hRm ⟨Nat.le_of_ble_eq_true rfl, Nat.le_of_ble_eq_true rfl⟩ (Nat.le_of_ble_eq_true rfl) ⟨(by show kc + 1 + 0 ≤ 601024; omega), (by show ks + 6 + 0 ≤ 7293034; omega)⟩ dL_law_1321 ?_
  refine z_iload (pc := 1324) hC 0 dL_law_1324 rfl ?_
  refine z_icmp_eq (pc := 1326) (tgt := 1331) hC dL_law_1326 (by decide) (fun h1326 => ?_) (fun h1326 => ?_)
  · skip
    refine z_goto (pc := 1331) (tgt := 1334) hC dL_law_1331 (by decide) ?_
    refine z_lvs (lv' := [(4, .int (nI i)), (0, .ref b), (1, .ref (g.1 80)), (2, .ref (g.1 95)), (3, .ref (g.1 110))]) [1, 2, 3, 4, 5] rfl ?_
    refine z_widen (k := kc + 50) (n := ks + 1000) (by omega) (by omega) ?_
    exact hkk g.1 N σ2 τ I2 P2 J2 hG (fun _ _ => rfl) (Nat.le_refl _) hLI
  · skip
    exact absurd rfl h1326
end ZLW
