section ZA
variable {C : zC} {g : zG} {N nL cells slots : Nat} {I : Nat → Nat → Int32} {P : Nat → Nat → Option Nat} {J : Nat → Nat → Int64} {pc : Nat} {lv : List (Nat × Value)} {st : List Value} {cc : ByteArray} {own : String} {w0 : Cond}
theorem z_lt {Ts : List Cond} (hC : zX C cc nL own Ts g N) {k : Nat} (h : k < 100) : k < N := Nat.lt_of_lt_of_le h hC.2.2.2.2.2.2.1
theorem z_ltb {Ts : List Cond} (hC : zX C cc nL own Ts g N) {b : Nat} (h : b < 40) : b < N := z_lt hC (Nat.lt_of_lt_of_le h (by decide))
theorem z_lts {Ts : List Cond} (hC : zX C cc nL own Ts g N) {b : Nat} (h : b < 40) : 40 + b < N := z_lt hC (by omega)
theorem z_shb {b : Nat} (h : b < 40) : z_sh b = (false, 0, 0) := if_pos h
theorem z_shs {b : Nat} (h : b < 40) : z_sh (40 + b) = (true, 0, 20) := by
  unfold z_sh
  rw [if_neg (by omega), if_pos (by omega)]
theorem z_fxb {b : Nat} (h : b < 40) : z_fx b 1 = 40 + b := if_pos h
theorem z_tw {w : Cond} (h : w ∈ zU) : w ∈ w0 :: zU := List.mem_cons_of_mem _ h
theorem z_tI {L : List Cond} (h : ∀ w ∈ L, w ∈ zU) : ∀ w ∈ L, w ∈ w0 :: zU := fun w hw => List.mem_cons_of_mem _ (h w hw)
/-- an int field read, its value named -/
theorem z_gI (hC : zX C cc nL own (w0 :: zU) g N) {NN index id : Nat} {Cn : String} {Tn : u_T} (ci k : Nat) {x : Int32} (hsh : z_sh id = (false, ci, 0)) (hid : id < N) (hc : zCls[ci]? = some (Cn, Tn, NN)) (hin : ∀ w ∈ u_ws Cn Tn NN, w ∈ zU) (hk : k < NN) (hft : (z_ft ci)[k]? = some 0) (hlink : Cond.fieldLink own index (Tn k).1 (Tn k).2.1 (Tn k).2.2.1 ∈ zU) (hx : I id k = x) (hdg : decode cc pc = .ok (.getfield index, 3)) (kk : zJ C g N nL cells slots I P J (pc + 3) lv (.int x :: st)) : zJ C g N nL cells slots I P J pc lv (.ref (g.1 id) :: st) := by
  subst hx
  exact z_get hC hsh hid hc (z_tI hin) hk hft (z_tw hlink) hdg kk
/-- a reference that changes -/
theorem z_gP (hC : zX C cc nL own (w0 :: zU) g N) {NN index id : Nat} {Cn : String} {Tn : u_T} (ci k : Nat) {v : Value} (hsh : z_sh id = (false, ci, 0)) (hid : id < N) (hc : zCls[ci]? = some (Cn, Tn, NN)) (hin : ∀ w ∈ u_ws Cn Tn NN, w ∈ zU) (hk : k < NN) (hft : (z_ft ci)[k]? = some 1) (hlink : Cond.fieldLink own index (Tn k).1 (Tn k).2.1 (Tn k).2.2.1 ∈ zU) (hx : va_rf ((P id k).map g.1) = v) (hdg : decode cc pc = .ok (.getfield index, 3)) (kk : zJ C g N nL cells slots I P J (pc + 3) lv (v :: st)) : zJ C g N nL cells slots I P J pc lv (.ref (g.1 id) :: st) := by
  subst hx
  exact z_get hC hsh hid hc (z_tI hin) hk hft (z_tw hlink) hdg kk
/-- a reference that doesn't change -/
theorem z_gF (hC : zX C cc nL own (w0 :: zU) g N) {NN index id : Nat} {Cn : String} {Tn : u_T} (ci k : Nat) {t : Nat} (hsh : z_sh id = (false, ci, 0)) (hid : id < N) (hc : zCls[ci]? = some (Cn, Tn, NN)) (hin : ∀ w ∈ u_ws Cn Tn NN, w ∈ zU) (hk : k < NN) (hft : (z_ft ci)[k]? = some 2) (hlink : Cond.fieldLink own index (Tn k).1 (Tn k).2.1 (Tn k).2.2.1 ∈ zU) (hx : z_fx id k = t) (hdg : decode cc pc = .ok (.getfield index, 3)) (kk : zJ C g N nL cells slots I P J (pc + 3) lv (.ref (g.1 t) :: st)) : zJ C g N nL cells slots I P J pc lv (.ref (g.1 id) :: st) := by
  subst hx
  exact z_get hC hsh hid hc (z_tI hin) hk hft (z_tw hlink) hdg kk
theorem z_pI (hC : zX C cc nL own (w0 :: zU) g N) {NN index id : Nat} {Cn : String} {Tn : u_T} {ty0 : Nat → FieldType} (ci k : Nat) {v : Int32} (hsh : z_sh id = (false, ci, 0)) (hid : id < N) (hc : zCls[ci]? = some (Cn, Tn, NN)) (hin : ∀ w ∈ u_ws Cn Tn NN, w ∈ zU) (hty : ∀ k, k < NN → parseFieldDescriptor (Tn k).2.2.1 = some (ty0 k)) (hnm : ∀ a, a < NN → ∀ b, b < NN → a ≠ b → (Tn a).2.1 ≠ (Tn b).2.1) (hk : k < NN) (hft : (z_ft ci)[k]? = some 0) (hlink : Cond.fieldLink own index (Tn k).1 (Tn k).2.1 (Tn k).2.2.1 ∈ zU) (hfin : (Tn k).2.2.2 = false) (hn : narrow (ty0 k) (.int v) = .int v) (hfit : fits (ty0 k) (.int v) = true) (hdg : decode cc pc = .ok (.putfield index, 3)) (kk : zJ C g N nL cells slots (z_u I id k v) P J (pc + 3) lv st) : zJ C g N nL cells slots I P J pc lv (.int v :: .ref (g.1 id) :: st) :=
  z_putI hC hsh hid hc (z_tI hin) ty0 hty hnm hk hft (z_tw hlink) hfin (hty k hk) hn hfit hdg kk
theorem z_pP (hC : zX C cc nL own (w0 :: zU) g N) {NN index id : Nat} {Cn : String} {Tn : u_T} {ty0 : Nat → FieldType} (ci k : Nat) {r : Option Nat} {v : Value} {cn : String} (hsh : z_sh id = (false, ci, 0)) (hid : id < N) (hc : zCls[ci]? = some (Cn, Tn, NN)) (hin : ∀ w ∈ u_ws Cn Tn NN, w ∈ zU) (hty : ∀ k, k < NN → parseFieldDescriptor (Tn k).2.2.1 = some (ty0 k)) (hnm : ∀ a, a < NN → ∀ b, b < NN → a ≠ b → (Tn a).2.1 ≠ (Tn b).2.1) (hk : k < NN) (hft : (z_ft ci)[k]? = some 1) (hlink : Cond.fieldLink own index (Tn k).1 (Tn k).2.1 (Tn k).2.2.1 ∈ zU) (hfin : (Tn k).2.2.2 = false) (hob : ty0 k = .object cn) (hv : va_rf (r.map g.1) = v) (hdg : decode cc pc = .ok (.putfield index, 3)) (kk : zJ C g N nL cells slots I (z_u P id k r) J (pc + 3) lv st) : zJ C g N nL cells slots I P J pc lv (v :: .ref (g.1 id) :: st) := by
  subst hv
  refine z_putP hC hsh hid hc (z_tI hin) ty0 hty hnm hk hft (z_tw hlink) hfin (hty k hk) ?_ ?_ hdg kk
  · rw [hob]
    cases r <;> rfl
  · rw [hob]
    cases r <;> rfl
/-- arrays at an index that is a number -/
theorem z_iaN (hC : zX C cc nL own (w0 :: zU) g N) {id n : Nat} (k : Nat) {i x : Int32} (hsh : z_sh id = (true, 0, n)) (hid : id < N) (hi : i = nI k) (hk : k < n) (hn : n < 2 ^ 31) (hx : I id k = x) (hdg : decode cc pc = .ok (.iaload, 1)) (kk : zJ C g N nL cells slots I P J (pc + 1) lv (.int x :: st)) : zJ C g N nL cells slots I P J pc lv (.int i :: .ref (g.1 id) :: st) := by
  subst hi
  subst hx
  have e : (nI k).toNatClampNeg = k := nI_clamp (by omega)
  exact z_iald hC hsh hid (vp_in_nI hk hn) hdg (by rw [e]; exact kk)
theorem z_zaN (hC : zX C cc nL own (w0 :: zU) g N) {id n : Nat} (k : Nat) {i x : Int32} (hsh : z_sh id = (true, 1, n)) (hid : id < N) (hi : i = nI k) (hk : k < n) (hn : n < 2 ^ 31) (hx : I id k = x) (hdg : decode cc pc = .ok (.baload, 1)) (kk : zJ C g N nL cells slots I P J (pc + 1) lv (.int x :: st)) : zJ C g N nL cells slots I P J pc lv (.int i :: .ref (g.1 id) :: st) := by
  subst hi
  subst hx
  have e : (nI k).toNatClampNeg = k := nI_clamp (by omega)
  exact z_zald hC hsh hid (vp_in_nI hk hn) hdg (by rw [e]; exact kk)
theorem z_isN (hC : zX C cc nL own (w0 :: zU) g N) {id n : Nat} (k : Nat) {i v : Int32} (hsh : z_sh id = (true, 0, n)) (hid : id < N) (hi : i = nI k) (hk : k < n) (hn : n < 2 ^ 31) (hdg : decode cc pc = .ok (.iastore, 1)) (kk : zJ C g N nL cells slots (z_u I id k v) P J (pc + 1) lv st) : zJ C g N nL cells slots I P J pc lv (.int v :: .int i :: .ref (g.1 id) :: st) := by
  subst hi
  have e : (nI k).toNatClampNeg = k := nI_clamp (by omega)
  exact z_iast hC hsh hid (vp_in_nI hk hn) hdg (by rw [e]; exact kk)
theorem z_zsN (hC : zX C cc nL own (w0 :: zU) g N) {id n : Nat} (k : Nat) {i v : Int32} (hsh : z_sh id = (true, 1, n)) (hid : id < N) (hi : i = nI k) (hk : k < n) (hn : n < 2 ^ 31) (hv : v = 0 ∨ v = 1) (hdg : decode cc pc = .ok (.bastore, 1)) (kk : zJ C g N nL cells slots (z_u I id k v) P J (pc + 1) lv st) : zJ C g N nL cells slots I P J pc lv (.int v :: .int i :: .ref (g.1 id) :: st) := by
  subst hi
  have e : (nI k).toNatClampNeg = k := nI_clamp (by omega)
  exact z_zast hC hsh hid (vp_in_nI hk hn) (by rcases hv with rfl | rfl <;> decide) hdg (by rw [e]; exact kk)
theorem z_baN (hC : zX C cc nL own (w0 :: zU) g N) (k : Nat) {i : Int32} (hi : i = nI k) (hk : k < 40) (hdg : decode cc pc = .ok (.aaload, 1)) (kk : zJ C g N nL cells slots I P J (pc + 1) lv (.ref (g.1 k) :: st)) : zJ C g N nL cells slots I P J pc lv (.int i :: .ref (g.1 84) :: st) := by
  subst hi
  have e : (nI k).toNatClampNeg = k := nI_clamp (by omega)
  exact z_aaldB hC rfl (z_lt hC (by decide)) (vp_in_nI hk (by decide)) hdg (by rw [e]; exact kk)
/-- an answer x, the memory I1 P1 J1 behind the call -/
def zMu (x : Option Value) (I1 : Nat → Nat → Int32) (P1 : Nat → Nat → Option Nat) (J1 : Nat → Nat → Int64) : Option Value → (Nat → Nat → Int32) → (Nat → Nat → Option Nat) → (Nat → Nat → Int64) → Prop := fun v I' P' J' => v = x ∧ I' = I1 ∧ P' = P1 ∧ J' = J1
theorem zMu_i {x : Option Value} {I : Nat → Nat → Int32} {P : Nat → Nat → Option Nat} {J : Nat → Nat → Int64} {y : Option Value} (h : y = x) : zMu x I P J y I P J := ⟨h, rfl, rfl, rfl⟩
theorem z_cV (hC : zX C cc nL own (w0 :: zU) g N) {y : MethodName} {bytes : ByteArray} {maxL n index : Nat} {ret : Option FieldType} {Cn : String} {Tn : u_T} {NN ci id : Nat} {rm R0 : Room} {stk : List Value} {x : Option Value} {I1 : Nat → Nat → Int32} {P1 : Nat → Nat → Option Nat} {J1 : Nat → Nat → Int64} (As : List Value)
    (hM : z_Ct C.2.1 y (zT y bytes maxL ret) rm g N I P J (.ref (g.1 id) :: As) (zMu x I1 P1 J1) 0 0) (hsh : z_sh id = (false, ci, 0)) (hid : id < N) (hc : zCls[ci]? = some (Cn, Tn, NN)) (hp : z_pkV y bytes maxL ret Cn n) (hl : Cond.methodLink own index y ∈ zU)
    (hrm : rm.cells = 0 ∧ rm.slots = 0) (hn : As.length = n) (hst : stk = As.reverse ++ .ref (g.1 id) :: st) (hRm : C.2.2.2.1 = R0) (hR : rm.frames + 1 ≤ R0.frames ∧ 8 + (maxL + 11) + rm.locals ≤ R0.locals) (hW : (st.map fun v => v.category).sum ≤ 8) (hf : cells ≤ R0.cells ∧ slots ≤ R0.slots) (hdg : decode cc pc = .ok (.invokevirtual index, 3))
    (kk : zJ C g N nL cells slots I1 P1 J1 (pc + 3) lv (x.toList ++ st)) : zJ C g N nL cells slots I P J pc lv stk :=
  z_callV hC As hM hsh hid hc hp hl hrm hn hst hRm hR hW hf hdg (fun v I' P' J' h => by
    obtain ⟨rfl, rfl, rfl, rfl⟩ := h
    exact kk)
theorem z_cS (hC : zX C cc nL own (w0 :: zU) g N) {y : MethodName} {bytes : ByteArray} {maxL n index : Nat} {ret : Option FieldType} {rm R0 : Room} {stk : List Value} {x : Option Value} {I1 : Nat → Nat → Int32} {P1 : Nat → Nat → Option Nat} {J1 : Nat → Nat → Int64} (As : List Value)
    (hM : z_Ct C.2.1 y (zT y bytes maxL ret) rm g N I P J As (zMu x I1 P1 J1) 0 0) (hp : z_pkS y bytes maxL ret n) (hl : Cond.methodLink own index y ∈ zU)
    (hrm : rm.cells = 0 ∧ rm.slots = 0) (hn : As.length = n) (hst : stk = As.reverse ++ st) (hRm : C.2.2.2.1 = R0) (hR : rm.frames + 1 ≤ R0.frames ∧ 8 + (maxL + 11) + rm.locals ≤ R0.locals) (hW : (st.map fun v => v.category).sum ≤ 8) (hf : cells ≤ R0.cells ∧ slots ≤ R0.slots) (hdg : decode cc pc = .ok (.invokestatic index, 3))
    (kk : zJ C g N nL cells slots I1 P1 J1 (pc + 3) lv (x.toList ++ st)) : zJ C g N nL cells slots I P J pc lv stk :=
  z_callS hC As hM hp hl hrm hn hst hRm hR hW hf hdg (fun v I' P' J' h => by
    obtain ⟨rfl, rfl, rfl, rfl⟩ := h
    exact kk)
theorem z_cSN (hC : zX C cc nL own (w0 :: zU) g N) {y : MethodName} {bytes : ByteArray} {maxL n index : Nat} {ret : Option FieldType} {rm R0 : Room} {stk : List Value} {x : Option Value} {I1 : Nat → Nat → Int32} {P1 : Nat → Nat → Option Nat} {J1 : Nat → Nat → Int64} {host : String} (As : List Value)
    (hM : z_Ct C.2.1 y (zT y bytes maxL ret) rm g N I P J As (zMu x I1 P1 J1) 0 0) (hp : z_pkS y bytes maxL ret n) (hl : va_Nw (.methodLinkNest own index y host) C.2.2.2.2.1)
    (hrm : rm.cells = 0 ∧ rm.slots = 0) (hn : As.length = n) (hst : stk = As.reverse ++ st) (hRm : C.2.2.2.1 = R0) (hR : rm.frames + 1 ≤ R0.frames ∧ 8 + (maxL + 11) + rm.locals ≤ R0.locals) (hW : (st.map fun v => v.category).sum ≤ 8) (hf : cells ≤ R0.cells ∧ slots ≤ R0.slots) (hdg : decode cc pc = .ok (.invokestatic index, 3))
    (kk : zJ C g N nL cells slots I1 P1 J1 (pc + 3) lv (x.toList ++ st)) : zJ C g N nL cells slots I P J pc lv stk :=
  z_callSN hC As hM hp hl hrm hn hst hRm hR hW hf hdg (fun v I' P' J' h => by
    obtain ⟨rfl, rfl, rfl, rfl⟩ := h
    exact kk)
theorem z_lvs {lv' : List (Nat × Value)} (ks : List Nat) (h : lv_pick lv ks = lv') (k : zJ C g N nL cells slots I P J pc lv' st) : zJ C g N nL cells slots I P J pc lv st := fun H locs ls hP hS hl => k H locs ls hP hS (lv_sub hl ks h)
theorem z_saN (hC : zX C cc nL own (w0 :: zU) g N) (k i : Nat) {x : Int32} (hst : z_static g C.2.2.2.2.1 k) (hi : x = nI i) (hk : i < 20) (hdg : decode cc pc = .ok (.iaload, 1)) (kk : zJ C g N nL cells slots I P J (pc + 1) lv (.int (z_st k i) :: st)) : zJ C g N nL cells slots I P J pc lv (.int x :: .ref (g.2.2.2.1 k) :: st) := by
  subst hi
  have e : (nI i).toNatClampNeg = i := nI_clamp (by omega)
  exact z_sald hC k hst (vp_in_nI hk (by decide)) hdg (by rw [e]; exact kk)
theorem z_getsN (hC : zX C cc nL own (w0 :: zU) g N) {index : Nat} {host : String} (k : Nat) (hst : z_static g C.2.2.2.2.1 k) (hl : va_Nw (.fieldLinkNest own index "FlexibleBoxes" (z_sn k) "[I" host) C.2.2.2.2.1) (hdg : decode cc pc = .ok (.getstatic index, 3)) (kk : zJ C g N nL cells slots I P J (pc + 3) lv (.ref (g.2.2.2.1 k) :: st)) : zJ C g N nL cells slots I P J pc lv st :=
  fun H locs ls hP hS hl2 => va_getsN hC.1 hC.2.1 hst.1 hS hC.2.2.2.1 (va_Nw.use rfl hl) (fun _ h => h) hdg (kk H locs ls hP hS hl2)
theorem z_catO (x : Option Nat) : (va_rf x).category = 1 := by cases x <;> rfl
theorem z_catR (a : Nat) : (Value.ref a).category = 1 := rfl
theorem z_catI (a : Int32) : (Value.int a).category = 1 := rfl
theorem z_catL (a : Int64) : (Value.long a).category = 2 := rfl
theorem z_catN : Value.null.category = 1 := rfl
theorem z_f01 {v : Int32} (h : v = 0 ∨ v = 1) : fits .boolean (.int v) = true := by rcases h with rfl | rfl <;> rfl
theorem z_b01 {v : Int32} (h : v = 0 ∨ v = 1) : narrow .boolean (.int v) = .int v := by rcases h with rfl | rfl <;> rfl
end ZA
