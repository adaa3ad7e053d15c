/-! the words that speak of nest mates: kept from state to state -/
abbrev zn0 : Cond := (Jvm.Cond.fieldLinkNest "FlexibleBoxes$Box" (27 : Nat) "FlexibleBoxes" "FIRST" "[I" "FlexibleBoxes")
theorem zn0_in : zn0 ∈ tables_1_1 := List.mem_of_getElem? (i := 124) rfl
abbrev zn1 : Cond := (Jvm.Cond.methodLinkNest "FlexibleBoxes$Layout" (11 : Nat) ({ cls := "FlexibleBoxes$Flex", name := "<init>", desc := "()V" } : Jvm.MethodName) "FlexibleBoxes")
theorem zn1_in : zn1 ∈ tables_1_1 := List.mem_of_getElem? (i := 155) rfl
abbrev zn2 : Cond := (Jvm.Cond.methodLinkNest "FlexibleBoxes$Layout" (97 : Nat) ({ cls := "FlexibleBoxes", name := "gaps", desc := "(II)I" } : Jvm.MethodName) "FlexibleBoxes")
theorem zn2_in : zn2 ∈ tables_1_2 := List.mem_of_getElem? (i := 126) rfl
abbrev zn3 : Cond := (Jvm.Cond.methodLinkNest "FlexibleBoxes$Box" (69 : Nat) ({ cls := "FlexibleBoxes", name := "limited", desc := "(III)I" } : Jvm.MethodName) "FlexibleBoxes")
theorem zn3_in : zn3 ∈ tables_1_2 := List.mem_of_getElem? (i := 144) rfl
abbrev zn4 : Cond := (Jvm.Cond.methodLinkNest "FlexibleBoxes$Flex" (66 : Nat) ({ cls := "FlexibleBoxes", name := "gaps", desc := "(II)I" } : Jvm.MethodName) "FlexibleBoxes")
theorem zn4_in : zn4 ∈ tables_1_2 := List.mem_of_getElem? (i := 198) rfl
abbrev zn5 : Cond := (Jvm.Cond.methodLinkNest "FlexibleBoxes$Flex" (93 : Nat) ({ cls := "FlexibleBoxes", name := "limited", desc := "(III)I" } : Jvm.MethodName) "FlexibleBoxes")
theorem zn5_in : zn5 ∈ tables_1_2 := List.mem_of_getElem? (i := 203) rfl
abbrev zn6 : Cond := (Jvm.Cond.methodLinkNest "FlexibleBoxes$Box" (34 : Nat) ({ cls := "FlexibleBoxes", name := "isProperty", desc := "(I)Z" } : Jvm.MethodName) "FlexibleBoxes")
theorem zn6_in : zn6 ∈ tables_1_3 := List.mem_of_getElem? (i := 58) rfl
def z_nest (U : State) : Prop := va_Nw zn0 U ∧ va_Nw zn1 U ∧ va_Nw zn2 U ∧ va_Nw zn3 U ∧ va_Nw zn4 U ∧ va_Nw zn5 U ∧ va_Nw zn6 U
theorem z_nest.warm {s U : State} (hW : s.WarmedH U.vm) (h : z_nest s) : z_nest U := ⟨va_Nw.warmF hW h.1, va_Nw.warmM hW h.2.1, va_Nw.warmM hW h.2.2.1, va_Nw.warmM hW h.2.2.2.1, va_Nw.warmM hW h.2.2.2.2.1, va_Nw.warmM hW h.2.2.2.2.2.1, va_Nw.warmM hW h.2.2.2.2.2.2⟩
theorem z_nest.same {s U : State} (hv : s.vm = U.vm) (h : z_nest s) : z_nest U := ⟨va_Nw.same rfl hv h.1, va_Nw.same rfl hv h.2.1, va_Nw.same rfl hv h.2.2.1, va_Nw.same rfl hv h.2.2.2.1, va_Nw.same rfl hv h.2.2.2.2.1, va_Nw.same rfl hv h.2.2.2.2.2.1, va_Nw.same rfl hv h.2.2.2.2.2.2⟩
theorem z_nest.of {args : Array Value} {s : State} (h : ∀ w ∈ lw_tbl, w.before args s = true) : z_nest s := ⟨va_Nw.of rfl (h _ (List.mem_append_right _ (show zn0 ∈ tables_1 from List.mem_append_left _ zn0_in))), va_Nw.of rfl (h _ (List.mem_append_right _ (show zn1 ∈ tables_1 from List.mem_append_left _ zn1_in))), va_Nw.of rfl (h _ (List.mem_append_right _ (show zn2 ∈ tables_1 from List.mem_append_right _ (List.mem_append_left _ zn2_in)))), va_Nw.of rfl (h _ (List.mem_append_right _ (show zn3 ∈ tables_1 from List.mem_append_right _ (List.mem_append_left _ zn3_in)))), va_Nw.of rfl (h _ (List.mem_append_right _ (show zn4 ∈ tables_1 from List.mem_append_right _ (List.mem_append_left _ zn4_in)))), va_Nw.of rfl (h _ (List.mem_append_right _ (show zn5 ∈ tables_1 from List.mem_append_right _ (List.mem_append_left _ zn5_in)))), va_Nw.of rfl (h _ (List.mem_append_right _ (show zn6 ∈ tables_1 from List.mem_append_right _ (List.mem_append_right _ (zn6_in)))))⟩
