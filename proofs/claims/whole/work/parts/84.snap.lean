section ZSN
/-- the ids of a snapshot: s the object, s + 1 exists, s + 2 parents, s + 3 styles, s + 4 + b the rows -/
def zsn (s N : Nat) : Prop := (∃ c, s = 111 + 44 * c) ∧ s + 44 ≤ N
theorem zsn.lt {s N k : Nat} (h : zsn s N) (hk : k < 44) : s + k < N := by
  have := h.2
  omega
theorem zsn.sh {s N k : Nat} (h : zsn s N) (hk : k < 44) : z_sh (s + k) = z_stab k := by
  obtain ⟨⟨c, e⟩, _⟩ := h
  unfold z_sh
  rw [if_neg (by omega), if_neg (by omega), if_neg (by omega), show s + k - 111 = k + 44 * c by omega, Nat.add_mul_mod_self_left, Nat.mod_eq_of_lt hk]
theorem zsn.sh0 {s N : Nat} (h : zsn s N) : z_sh s = (false, 3, 0) := h.sh (k := 0) (by decide)
theorem zsn.sh1 {s N : Nat} (h : zsn s N) : z_sh (s + 1) = (true, 1, 40) := h.sh (k := 1) (by decide)
theorem zsn.sh2 {s N : Nat} (h : zsn s N) : z_sh (s + 2) = (true, 0, 40) := h.sh (k := 2) (by decide)
theorem zsn.sh3 {s N : Nat} (h : zsn s N) : z_sh (s + 3) = (true, 5, 40) := h.sh (k := 3) (by decide)
theorem zsn.sh4 {s N b : Nat} (h : zsn s N) (hb : b < 40) : z_sh (s + 4 + b) = (true, 0, 20) := by
  rw [show s + 4 + b = s + (4 + b) by omega, h.sh (by omega)]
  unfold z_stab
  rw [if_neg (by omega), if_neg (by omega), if_neg (by omega), if_neg (by omega)]
theorem zsn.ge {s N : Nat} (h : zsn s N) : 111 ≤ s := by
  obtain ⟨⟨c, e⟩, _⟩ := h
  omega
theorem zsn.fx {s N : Nat} (h : zsn s N) (k : Nat) : z_fx s k = s + 1 + k := by
  have := h.ge
  unfold z_fx
  rw [if_neg (by omega), if_neg (by omega), if_neg (by omega), if_neg (by omega), if_neg (by omega), if_neg (by omega)]
theorem zmNat : Cond.native arraycopyName ∈ zU := zin4 (List.mem_of_getElem? (i := 47) rfl) rfl
section
variable {p : Program} {l : Launch} {e : Env} {R : Room} {s : State} {m : MethodId} {args : Array Value} {below : List Frame} {meth : Method} {c : Code} {H : Heap} {locs : List Loc} {cells slots : Nat} {Q : State → Prop} {cc : ByteArray} {pc : Nat} {ls : Array Slot} {rest : List Value} {D : va_G} {cl : List vw_C} {a : Nat} {tys : List (ClassId × FieldType)} {ws : va_W}
theorem va_ald5 (hexec : p.tables.exec = Jvm.exec) (hb : c.code = cc) (hK : va_K D cl tys s) (hP : va_P D cl ws H) (q0 t0 : Nat) {cA : ClassId} {n : Nat} {f : Nat → Option Nat} (ha : ws[q0]? = some (a, .inl (cA, n, .inr (.inr (.inr (.inr f)))))) (ht : tys[t0]? = some (cA, .array .int)) {i : Int32} (hin : vp_in i n) (hdg : decode cc pc = .ok (.aaload, 1))
    (kk : W p l e R s m args below meth c H locs cells slots Q (F0 m (pc + 1) ls (va_rf (f i.toNatClampNeg) :: rest))) : W p l e R s m args below meth c H locs cells slots Q (F0 m pc ls (.int i :: .ref a :: rest)) := by
  have hlt : i.toNatClampNeg < n := Nat.not_le.mp fun q => hin (Or.inr q)
  exact W.aald (v := va_rf (f i.toNatClampNeg)) (ty := .array .int) hexec hb (hP q0 _ ha) ((hK.2 t0 _ ht).1 n (fun j => va_rf (f j))) rfl (fun q => by cases q) (by show ¬ (i < 0 ∨ (arrV _ _ _).slots.size ≤ _); rw [arrV_size]; exact hin) (by show (arrV _ _ _).slots[_]? = _; rw [arrV_read _ _ hlt]) rfl rfl hdg kk
end
section
variable {C : zC} {g : zG} {N nL cells slots : Nat} {I : Nat → Nat → Int32} {P : Nat → Nat → Option Nat} {J : Nat → Nat → Int64} {pc : Nat} {lv : List (Nat × Value)} {st : List Value} {cc : ByteArray} {own : String} {w0 : Cond}
/-- a row of a snapshot's styles -/
theorem z_aald5 (hC : zX C cc nL own (w0 :: zU) g N) {s : Nat} (hs : zsn s N) (k : Nat) {x : Int32} (hi : x = nI k) (hk : k < 40) (hdg : decode cc pc = .ok (.aaload, 1)) (kk : zJ C g N nL cells slots I P J (pc + 1) lv (.ref (g.1 (s + 4 + k)) :: st)) : zJ C g N nL cells slots I P J pc lv (.int x :: .ref (g.1 (s + 3)) :: st) := by
  subst hi
  have e : (nI k).toNatClampNeg = k := nI_clamp (by omega)
  have hid : s + 3 < N := hs.lt (by decide)
  have hin : vp_in (nI k) 40 := vp_in_nI hk (by decide)
  have ee : va_rf (z_el g P (s + 3) 5 (nI k).toNatClampNeg) = .ref (g.1 (s + 4 + k)) := by
    rw [e]
    rfl
  exact fun H locs ls hP hS hl => va_ald5 (f := z_el g P (s + 3) 5) hC.1 hC.2.1 hC.2.2.2.2.2.1.1 hP (s + 3) 5 (by rw [z_wl_get hid, z_cn_ar hs.sh3]; rfl) rfl hin hdg (by rw [ee]; exact kk H locs ls hP hS hl)
/-- a style copied -/
theorem z_cpyN (hC : zX C cc nL own (w0 :: zU) g N) {R0 : Room} {index : Nat} (a b : Nat) (ha : z_sh a = (true, 0, 20)) (hb : z_sh b = (true, 0, 20)) (ha2 : a < N) (hb2 : b < N) (hlk : Cond.methodLink own index arraycopyName ∈ zU) (hst : Cond.static arraycopyName ∈ zU) (hin : Cond.initialized "java/lang/System" ∈ zU) (hRm : C.2.2.2.1 = R0) (h1 : 1 ≤ R0.frames) (h2 : (st.map fun v => v.category).sum + (nativeFrameWords "java/lang/System" "arraycopy" 5 + 11) ≤ R0.locals) (hdg : decode cc pc = .ok (.invokestatic index, 3)) (kk : zJ C g N nL cells slots (zrow (I a) I b 20) P J (pc + 3) lv st) : zJ C g N nL cells slots I P J pc lv (.int 20 :: .int 0 :: .ref (g.1 b) :: .int 0 :: .ref (g.1 a) :: st) := fun H locs ls hP hS hl =>
  va_copyi (ty := .int) (f := I a) (g := I b) hC.1 hC.2.1 (hC.2.2.1.trans hl.1.symm) hC.2.2.2.1 (hC.2.2.2.2.1 _ (z_tw hlk)) (hC.2.2.2.2.1 _ (z_tw zmNat)) (hC.2.2.2.2.1 _ (z_tw hst)) (hC.2.2.2.2.1 _ (z_tw hin)) hC.2.2.2.2.2.1.1 hP (z_D hC.2.2.2.2.2.2) hS a b 0 0 (by rw [z_wl_get ha2, z_cn_ar ha]; rfl) (by rw [z_wl_get hb2, z_cn_ar hb]; rfl) rfl rfl rfl (by decide) (by decide) (by decide) (Nat.le_of_ble_eq_true rfl) (Nat.le_of_ble_eq_true rfl) (fun _ _ => rfl) (by rw [hRm]; exact h1) (by rw [hRm]; exact h2) hdg (fun H1 locs1 hP1 _ hS1 => kk H1 locs1 ls (by
    rw [z_wl_set hb2 (I' := zrow (I a) I b 20) (P' := P) (J' := J) ?_ ?_] at hP1
    · exact hP1
    · rw [z_cn_ar hb]
      unfold z_ar
      have e : zrow (I a) I b 20 b = va_cpy (I a) (I b) (0 : Int32).toNatClampNeg (0 : Int32).toNatClampNeg (20 : Int32).toNatClampNeg := by
        funext j
        show (if b = b ∧ j < 20 then I a j else I b j) = if 0 ≤ j ∧ j < 0 + 20 then I a (0 + (j - 0)) else I b j
        by_cases h : j < 20
        · rw [if_pos ⟨rfl, h⟩, if_pos (by omega), Nat.zero_add, Nat.sub_zero]
        · rw [if_neg (fun q => h q.2), if_neg (by omega)]
      rw [e]
      rfl
    · intro j hj
      exact z_cn_congr (funext fun k => if_neg (fun q => hj q.1)) rfl rfl) hS1 hl)
end
theorem zrow_x (f : Nat → Int32) (I : Nat → Nat → Int32) {id n a j : Nat} (h : a ≠ id) : zrow f I id n a j = I a j := if_neg (fun q => h q.1)
/-- the number that stands for a parent -/
def zpn (P : Nat → Nat → Option Nat) (b : Nat) : Int32 := match P b 3 with
  | none => -1
  | some a => nI a
/-- the first b boxes are kept in the snapshot s -/
def zscp (s : Nat) (P : Nat → Nat → Option Nat) (b : Nat) (I Ir : Nat → Nat → Int32) : Prop := (∀ q j, ¬ (s ≤ q ∧ q < s + 44) → Ir q j = I q j) ∧ (Ir s 3 = I 81 2 ∧ Ir s 4 = I 81 3 ∧ Ir s 5 = I 81 4) ∧ ∀ c, c < b → Ir (s + 1) c = I c 2 ∧ Ir (s + 2) c = zpn P c ∧ ∀ k, k < 20 → Ir (s + 4 + c) k = I (40 + c) k
theorem zscp_0 {s : Nat} (h : 111 ≤ s) {P : Nat → Nat → Option Nat} {I : Nat → Nat → Int32} : zscp s P 0 I (z_u (z_u (z_u I s 3 (I 81 2)) s 4 (I 81 3)) s 5 (I 81 4)) := by
  refine ⟨fun q j hq => ?_, ⟨?_, ?_, z_u_s _ _ _ _⟩, fun c hc => absurd hc (Nat.not_lt_zero _)⟩
  · rw [z_u_a _ _ (by omega), z_u_a _ _ (by omega), z_u_a _ _ (by omega)]
  · rw [z_u_b _ _ (by decide), z_u_b _ _ (by decide), z_u_s]
  · rw [z_u_b _ _ (by decide), z_u_s]
theorem zscp_s {s : Nat} (h : 111 ≤ s) {P : Nat → Nat → Option Nat} {b : Nat} (hb : b < 40) {I Ir : Nat → Nat → Int32} (hz : zscp s P b I Ir) {x y : Int32} (hx : x = I b 2) (hy : y = zpn P b) : zscp s P (b + 1) I (zrow (I (40 + b)) (z_u (z_u Ir (s + 1) b x) (s + 2) b y) (s + 4 + b) 20) := by
  obtain ⟨h1, ⟨h2, h3, h4⟩, h5⟩ := hz
  have o : ∀ q j, q ≠ s + 4 + b → q ≠ s + 2 → q ≠ s + 1 → zrow (I (40 + b)) (z_u (z_u Ir (s + 1) b x) (s + 2) b y) (s + 4 + b) 20 q j = Ir q j := fun q j k1 k2 k3 => by
    rw [zrow_x _ _ k1, z_u_a _ _ k2, z_u_a _ _ k3]
  refine ⟨fun q j hq => ?_, ⟨?_, ?_, ?_⟩, fun c hc => ?_⟩
  · rw [o q j (by omega) (by omega) (by omega)]
    exact h1 q j hq
  · rw [o s 3 (by omega) (by omega) (by omega)]; exact h2
  · rw [o s 4 (by omega) (by omega) (by omega)]; exact h3
  · rw [o s 5 (by omega) (by omega) (by omega)]; exact h4
  · by_cases e : c = b
    · rw [e]
      refine ⟨?_, ?_, fun k hk => ?_⟩
      · rw [zrow_x _ _ (by omega), z_u_a _ _ (by omega), z_u_s, hx]
      · rw [zrow_x _ _ (by omega), z_u_s, hy]
      · exact if_pos ⟨rfl, hk⟩
    · obtain ⟨q1, q2, q3⟩ := h5 c (by omega)
      refine ⟨?_, ?_, fun k hk => ?_⟩
      · rw [zrow_x _ _ (by omega), z_u_a _ _ (by omega), z_u_b _ _ e]; exact q1
      · rw [zrow_x _ _ (by omega), z_u_b _ _ e, z_u_a _ _ (by omega)]; exact q2
      · rw [o _ k (by omega) (by omega) (by omega)]; exact q3 k hk
/-- a snapshot holds a tree -/
def zSn (τ : zS) (I : Nat → Nat → Int32) (s : Nat) : Prop := sWF τ ∧ (I s 3 = nI (sGv τ) ∧ I s 4 = sVw τ ∧ I s 5 = sVh τ) ∧ (∀ b, b < 40 → I (s + 1) b = zB (sEx τ b)) ∧ (∀ b, b < 40 → I (s + 2) b = -1 ∨ ∃ a, a < 40 ∧ I (s + 2) b = nI a) ∧ (∀ b, sEx τ b = true → I (s + 2) b = sPnu τ b) ∧ ∀ b k, sEx τ b = true → k < 20 → I (s + 4 + b) k = sSt τ b k
theorem zSn_fr {τ : zS} {I I' : Nat → Nat → Int32} {s : Nat} (h : zSn τ I s) (e : ∀ q j, s ≤ q → q < s + 44 → I' q j = I q j) : zSn τ I' s := by
  obtain ⟨h1, ⟨h2, h3, h4⟩, h5, h6, h7, h8⟩ := h
  have lt : ∀ b, sEx τ b = true → b < 40 := fun b hb => Nat.lt_of_lt_of_le (h1.2.2.2.1 b hb) h1.2.2.1
  refine ⟨h1, ⟨?_, ?_, ?_⟩, fun b hb => ?_, fun b hb => ?_, fun b hb => ?_, fun b k hb hk => ?_⟩
  · rw [e _ _ (by omega) (by omega)]; exact h2
  · rw [e _ _ (by omega) (by omega)]; exact h3
  · rw [e _ _ (by omega) (by omega)]; exact h4
  · rw [e _ _ (by omega) (by omega)]; exact h5 b hb
  · rw [e _ _ (by omega) (by omega)]; exact h6 b hb
  · rw [e _ _ (by omega) (by omega)]; exact h7 b hb
  · have := lt b hb
    rw [e _ _ (by omega) (by omega)]; exact h8 b k hb hk
theorem zSn_of {σ : zS} {I Ir : Nat → Nat → Int32} {P : Nat → Nat → Option Nat} {s : Nat} (ht : zTr σ I P) (h : zscp s P 40 I Ir) : zSn σ Ir s := by
  obtain ⟨h1, ⟨h2, h3, h4⟩, h5⟩ := h
  have lt : ∀ b, sEx σ b = true → b < 40 := fun b hb => zTr_lt ht hb
  refine ⟨ht.1, ⟨h2.trans ht.2.2.2.2.2.2.2.1, h3.trans ht.2.2.2.2.2.2.2.2.1, h4.trans ht.2.2.2.2.2.2.2.2.2⟩, fun b hb => ((h5 b hb).1).trans (ht.2.2.1 b hb), fun b hb => ?_, fun b hb => ?_, fun b k hb hk => ((h5 b (lt b hb)).2.2 k hk).trans (zTr_st ht hb hk)⟩
  · rw [(h5 b hb).2.1]
    unfold zpn
    cases e : P b 3 with
    | none => exact Or.inl rfl
    | some a => exact Or.inr ⟨a, ht.2.2.2.2.2.1 b a hb e, rfl⟩
  · rw [(h5 b (lt b hb)).2.1]
    exact zpn_S ht hb
/-- the first b boxes are as the snapshot s has them -/
def zsr (s : Nat) (b : Nat) (I : Nat → Nat → Int32) (P : Nat → Nat → Option Nat) (Ir : Nat → Nat → Int32) (Pr : Nat → Nat → Option Nat) : Prop := (∀ q j, ¬ (q < 40 ∧ j = 2) → ¬ (40 ≤ q ∧ q < 80) → ¬ (q = 81 ∧ 2 ≤ j ∧ j ≤ 4) → Ir q j = I q j) ∧ (Ir 81 2 = I s 3 ∧ Ir 81 3 = I s 4 ∧ Ir 81 4 = I s 5) ∧ (∀ q j, ¬ (q < 40 ∧ j = 3) → Pr q j = P q j) ∧ ∀ c, c < b → Ir c 2 = I (s + 1) c ∧ (I (s + 2) c = -1 → Pr c 3 = none) ∧ (∀ a, a < 40 → I (s + 2) c = nI a → Pr c 3 = some a) ∧ ∀ k, k < 20 → Ir (40 + c) k = I (s + 4 + c) k
theorem zsr_0 {s : Nat} {I : Nat → Nat → Int32} {P : Nat → Nat → Option Nat} : zsr s 0 I P (z_u (z_u (z_u I 81 2 (I s 3)) 81 3 (I s 4)) 81 4 (I s 5)) P := by
  refine ⟨fun q j _ _ hq => ?_, ⟨?_, ?_, z_u_s _ _ _ _⟩, fun _ _ _ => rfl, fun c hc => absurd hc (Nat.not_lt_zero _)⟩
  · rw [z_u_r2 _ (fun y => hq ⟨y.1, by omega, by omega⟩), z_u_r2 _ (fun y => hq ⟨y.1, by omega, by omega⟩), z_u_r2 _ (fun y => hq ⟨y.1, by omega, by omega⟩)]
  · rw [z_u_b _ _ (by decide), z_u_b _ _ (by decide), z_u_s]
  · rw [z_u_b _ _ (by decide), z_u_s]
theorem zsr_s {s : Nat} (h : 111 ≤ s) {b : Nat} (hb : b < 40) {I Ir : Nat → Nat → Int32} {P Pr : Nat → Nat → Option Nat} (hz : zsr s b I P Ir Pr) {x : Int32} (hx : x = I (s + 1) b) {r : Option Nat} (h1 : I (s + 2) b = -1 → r = none) (h2 : ∀ a, a < 40 → I (s + 2) b = nI a → r = some a) : zsr s (b + 1) I P (zrow (I (s + 4 + b)) (z_u Ir b 2 x) (40 + b) 20) (z_u Pr b 3 r) := by
  obtain ⟨f1, ⟨f2, f3, f4⟩, f5, f6⟩ := hz
  have o : ∀ q j, q ≠ 40 + b → ¬ (q = b ∧ j = 2) → zrow (I (s + 4 + b)) (z_u Ir b 2 x) (40 + b) 20 q j = Ir q j := fun q j k1 k2 => by
    rw [zrow_x _ _ k1, z_u_r2 _ k2]
  refine ⟨fun q j k1 k2 k3 => ?_, ⟨?_, ?_, ?_⟩, fun q j k1 => ?_, fun c hc => ?_⟩
  · rw [o q j (by omega) (by omega)]
    exact f1 q j k1 k2 k3
  · rw [o _ _ (by omega) (by omega)]; exact f2
  · rw [o _ _ (by omega) (by omega)]; exact f3
  · rw [o _ _ (by omega) (by omega)]; exact f4
  · rw [z_u_r2 _ (fun y => k1 (by omega))]
    exact f5 q j k1
  · by_cases e : c = b
    · rw [e]
      refine ⟨?_, fun q => ?_, fun a ha q => ?_, fun k hk => ?_⟩
      · rw [zrow_x _ _ (by omega), z_u_s, hx]
      · rw [z_u_s, h1 q]
      · rw [z_u_s, h2 a ha q]
      · exact if_pos ⟨rfl, hk⟩
    · obtain ⟨q1, q2, q3, q4⟩ := f6 c (by omega)
      refine ⟨?_, fun q => ?_, fun a ha q => ?_, fun k hk => ?_⟩
      · rw [o _ _ (by omega) (by omega)]; exact q1
      · rw [z_u_a _ _ e]; exact q2 q
      · rw [z_u_a _ _ e]; exact q3 a ha q
      · rw [o _ _ (by omega) (by omega)]; exact q4 k hk
theorem zsr_end {τ : zS} {s : Nat} {I Ir : Nat → Nat → Int32} {P Pr : Nat → Nat → Option Nat} (hn : ∀ b, b < 40 → I b 0 = nI b) (hs : zSn τ I s) (h : zsr s 40 I P Ir Pr) : zTr τ Ir Pr := by
  obtain ⟨f1, ⟨f2, f3, f4⟩, f5, f6⟩ := h
  obtain ⟨g1, ⟨g2, g3, g4⟩, g5, g6, g7, g8⟩ := hs
  have lt : ∀ b, sEx τ b = true → b < 40 := fun b hb => Nat.lt_of_lt_of_le (g1.2.2.2.1 b hb) g1.2.2.1
  refine ⟨g1, fun b hb => ?_, fun b hb => ((f6 b hb).1).trans (g5 b hb), fun b hb h0 => ?_, ?_, fun b a hb q => ?_, fun b k hb hk => ((f6 b (lt b hb)).2.2.2 k hk).trans (g8 b k hb hk), f2.trans g2, f3.trans g3, f4.trans g4⟩
  · rw [f1 b 0 (by omega) (by omega) (by omega)]
    exact hn b hb
  · have hp := g1.2.2.2.2.1 b hb h0
    have hpl := lt _ hp.2
    refine (f6 b (lt b hb)).2.2.1 _ hpl ((g7 b hb).trans ?_)
    unfold sPnu
    rw [if_neg h0]
  · refine (f6 0 (by decide)).2.1 ((g7 0 g1.1).trans ?_)
    unfold sPnu
    rw [if_pos rfl]
  · rcases g6 b hb with e | ⟨a', ha', e⟩
    · rw [(f6 b hb).2.1 e] at q
      cases q
    · rw [(f6 b hb).2.2.1 a' ha' e] at q
      cases q
      exact ha'
theorem zkX4_copyTo : z_pkV yX4_copyTo cX4_copyTo 4 (Option.none : Option FieldType) RX4 1 := ⟨zm_4_41, zm_4_42, zm_1_2, zm_4_43, rfl, by decide, by decide, by decide +kernel⟩
theorem zkX4_takeFrom : z_pkV yX4_takeFrom cX4_takeFrom 4 (Option.none : Option FieldType) RX4 1 := ⟨zm_4_57, zm_4_58, zm_1_2, zm_4_59, rfl, by decide, by decide, by decide +kernel⟩
set_option maxHeartbeats 4000000 in
set_option maxRecDepth 100000 in
theorem kX4_copyTo (lx : Launch) (g : zG) (N : Nat) (I : Nat → Nat → Int32) (P : Nat → Nat → Option Nat) (J : Nat → Nat → Int64) (s : Nat) (hs : zsn s N) (hn : ∀ a, a < 40 → I a 0 = nI a) (hpb : ∀ b a, b < 40 → P b 3 = some a → a < 40) (ex : Nat → Bool) (hex : ∀ b, b < 40 → I b 2 = zB (ex b)) : z_Ct lx yX4_copyTo (zT yX4_copyTo cX4_copyTo 4 (Option.none : Option FieldType)) ({ frames := 1, cells := 0, slots := 0, locals := 120 } : Room) g N I P J [.ref (g.1 81), .ref (g.1 s)] (fun v I' P' J' => v = none ∧ P' = P ∧ J' = J ∧ zscp s P 40 I I') 0 0 := by
  refine z_of (by decide) (Nat.le_of_ble_eq_true rfl) (lv0 := [(0, .ref (g.1 81)), (1, .ref (g.1 s))]) rfl ?_
  intro C hlx hC hE hRm
  have hC : zX C cX4_copyTo 4 RX4 (zT yX4_copyTo cX4_copyTo 4 (Option.none : Option FieldType)) g N := hC
  refine z_aload_n (pc := 0) hC 1 dX4_copyTo_0 rfl rfl z_isr_r ?_
  refine z_aload_n (pc := 1) hC 0 dX4_copyTo_1 rfl rfl z_isr_r ?_
  refine z_gI (pc := 2) hC 4 2 (x := I 81 2) rfl (z_lt hC (by decide)) rfl inX4 (by decide) rfl zm_1_135 rfl dX4_copyTo_2 ?_
  refine z_pI (pc := 5) hC 3 3 (hs.sh0) (hs.lt (k := 0) (by decide)) rfl inX3 tyX3_ok nmX3 (by decide) rfl zm_4_24 rfl rfl rfl dX4_copyTo_5 ?_
  refine z_aload_n (pc := 8) hC 1 dX4_copyTo_8 rfl rfl z_isr_r ?_
  refine z_aload_n (pc := 9) hC 0 dX4_copyTo_9 rfl rfl z_isr_r ?_
  refine z_gI (pc := 10) hC 4 3 (x := I 81 3) rfl (z_lt hC (by decide)) rfl inX4 (by decide) rfl zm_1_136 (z_u_a _ _ (by have := hs.ge; omega)) dX4_copyTo_10 ?_
  refine z_pI (pc := 13) hC 3 4 (hs.sh0) (hs.lt (k := 0) (by decide)) rfl inX3 tyX3_ok nmX3 (by decide) rfl zm_4_25 rfl rfl rfl dX4_copyTo_13 ?_
  refine z_aload_n (pc := 16) hC 1 dX4_copyTo_16 rfl rfl z_isr_r ?_
  refine z_aload_n (pc := 17) hC 0 dX4_copyTo_17 rfl rfl z_isr_r ?_
  refine z_gI (pc := 18) hC 4 4 (x := I 81 4) rfl (z_lt hC (by decide)) rfl inX4 (by decide) rfl zm_1_139 ((z_u_a _ _ (by have := hs.ge; omega)).trans (z_u_a _ _ (by have := hs.ge; omega))) dX4_copyTo_18 ?_
  refine z_pI (pc := 21) hC 3 5 (hs.sh0) (hs.lt (k := 0) (by decide)) rfl inX3 tyX3_ok nmX3 (by decide) rfl zm_4_26 rfl rfl rfl dX4_copyTo_21 ?_
  refine z_iconst (pc := 24) (v := 0) hC dX4_copyTo_24 rfl ?_
  refine z_istore_n (pc := 25) (lv' := [(2, .int 0), (0, .ref (g.1 81)), (1, .ref (g.1 s))]) hC dX4_copyTo_25 rfl (by decide) rfl ?_
  have L26 : ∀ (zf : Nat) (b : Nat) (Ir : Nat → Nat → Int32) (hb : b ≤ 40) (hz : zscp s P b I Ir), 40 - b < zf → zJ C g N 4 0 0 Ir P J 26 [(2, .int (nI b)), (0, .ref (g.1 81)), (1, .ref (g.1 s))] [] := by
    intro zf
    induction zf with
    | zero =>
      intro b Ir hb hz hn2
      exact absurd hn2 (Nat.not_lt_zero _)
    | succ zf ih =>
      intro b Ir hb hz hn2
      refine z_iload_n (pc := 26) hC 0 dX4_copyTo_26 rfl rfl ?_
      refine z_bipush (pc := 27) (v := 40) hC dX4_copyTo_27 rfl ?_
      refine z_icmp_ge (pc := 29) (tgt := 85) hC dX4_copyTo_29 (by decide) (fun h29 => ?_) (fun h29 => ?_)
      · skip
        have g29 := Int32.not_lt.mpr h29
        have eb : b = 40 := Nat.le_antisymm hb (zc_ge (n := 40) h29 (by omega) (by decide))
        subst eb
        exact z_vret (pc := 85) hC hE dX4_copyTo_85 ⟨rfl, rfl, rfl, hz⟩
      · skip
        have g29 := Int32.not_le.mp h29
        have hb40 : b < 40 := zc_lt (n := 40) h29 (by omega) (by decide)
        refine z_aload_n (pc := 32) hC 1 dX4_copyTo_32 rfl rfl z_isr_r ?_
        refine z_iload_n (pc := 33) hC 0 dX4_copyTo_33 rfl rfl ?_
        refine z_cV (pc := 34) (st := []) hC [.int (nI b)] (kX4_at C.2.1 g N Ir P J b hb40 (nI b) rfl) rfl (z_lt hC (by decide)) rfl zkX4_at zm_1_231 ⟨rfl, rfl⟩ rfl rfl hRm ⟨Nat.le_of_ble_eq_true rfl, Nat.le_of_ble_eq_true rfl⟩ (Nat.le_of_ble_eq_true rfl) ⟨Nat.zero_le _, Nat.zero_le _⟩ dX4_copyTo_34 ?_
        refine z_astore_n (pc := 37) (lv' := [(3, .ref (g.1 b)), (2, .int (nI b)), (0, .ref (g.1 81)), (1, .ref (g.1 s))]) hC dX4_copyTo_37 rfl (by decide) z_isr_r rfl ?_
        refine z_aload_n (pc := 38) hC 0 dX4_copyTo_38 rfl rfl z_isr_r ?_
        refine z_ifnullR (pc := 39) hC dX4_copyTo_39 ?_
        refine z_aload_n (pc := 42) hC 3 dX4_copyTo_42 rfl rfl z_isr_r ?_
        refine z_gF (pc := 43) hC 3 0 (t := s + 1) (hs.sh0) (hs.lt (k := 0) (by decide)) rfl inX3 (by decide) rfl zm_4_19 (hs.fx 0) dX4_copyTo_43 ?_
        refine z_iload_n (pc := 46) hC 1 dX4_copyTo_46 rfl rfl ?_
        refine z_aload_n (pc := 47) hC 0 dX4_copyTo_47 rfl rfl z_isr_r ?_
        refine z_gI (pc := 48) hC 0 2 (x := I b 2) (z_shb hb40) (z_ltb hC hb40) rfl inX0 (by decide) rfl zm_1_44 (hz.1 b 2 (by have := hs.ge; omega)) dX4_copyTo_48 ?_
        refine z_zsN (pc := 51) hC b (hs.sh1) (hs.lt (k := 1) (by decide)) rfl hb40 (by decide) (by rw [hex b hb40]; exact zB_or _) dX4_copyTo_51 ?_
        refine z_aload_n (pc := 52) hC 3 dX4_copyTo_52 rfl rfl z_isr_r ?_
        refine z_gF (pc := 53) hC 3 1 (t := s + 2) (hs.sh0) (hs.lt (k := 0) (by decide)) rfl inX3 (by decide) rfl zm_4_21 (hs.fx 1) dX4_copyTo_53 ?_
        refine z_iload_n (pc := 56) hC 1 dX4_copyTo_56 rfl rfl ?_
        refine z_aload_n (pc := 57) hC 0 dX4_copyTo_57 rfl rfl z_isr_r ?_
        refine z_cV (pc := 58) (st := [.int (nI b), .ref (g.1 (s + 2))]) hC [] (kX0_parentNumber C.2.1 g N (z_u Ir (s + 1) b (I b 2)) P J b hb40 (fun a q => hpb b a hb40 q) (fun a ha => (z_u_a _ _ (by have := hs.ge; omega)).trans ((hz.1 a 0 (by have := hs.ge; omega)).trans (hn a ha)))) (z_shb hb40) (z_ltb hC hb40) rfl zkX0_parentNumber zm_4_44 ⟨rfl, rfl⟩ rfl rfl hRm ⟨Nat.le_of_ble_eq_true rfl, Nat.le_of_ble_eq_true rfl⟩ (Nat.le_of_ble_eq_true rfl) ⟨Nat.zero_le _, Nat.zero_le _⟩ dX4_copyTo_58 ?_
        refine z_isN (pc := 61) hC b (hs.sh2) (hs.lt (k := 2) (by decide)) rfl hb40 (by decide) dX4_copyTo_61 ?_
        refine z_aload_n (pc := 62) hC 0 dX4_copyTo_62 rfl rfl z_isr_r ?_
        refine z_gF (pc := 63) hC 0 1 (t := 40 + b) (z_shb hb40) (z_ltb hC hb40) rfl inX0 (by decide) rfl zm_1_42 (z_fxb hb40) dX4_copyTo_63 ?_
        refine z_iconst (pc := 66) (v := 0) hC dX4_copyTo_66 rfl ?_
        refine z_aload_n (pc := 67) hC 3 dX4_copyTo_67 rfl rfl z_isr_r ?_
        refine z_gF (pc := 68) hC 3 2 (t := s + 3) (hs.sh0) (hs.lt (k := 0) (by decide)) rfl inX3 (by decide) rfl zm_4_23 (hs.fx 2) dX4_copyTo_68 ?_
        refine z_iload_n (pc := 71) hC 1 dX4_copyTo_71 rfl rfl ?_
        refine z_aald5 (pc := 72) hC hs b rfl hb40 dX4_copyTo_72 ?_
        refine z_iconst (pc := 73) (v := 0) hC dX4_copyTo_73 rfl ?_
        refine z_bipush (pc := 74) (v := 20) hC dX4_copyTo_74 rfl ?_
        refine z_cpyN (pc := 76) (st := []) hC (40 + b) (s + 4 + b) (z_shs hb40) (hs.sh4 hb40) (z_lts hC hb40) (by have := hs.2; omega) (zm_4_45) (zm_4_46) (zm_1_15) hRm (Nat.le_of_ble_eq_true rfl) (Nat.le_of_ble_eq_true rfl) dX4_copyTo_76 ?_
        change zJ C g N 4 0 0 (zrow ((z_u (z_u Ir (s + 1) b (I b 2)) (s + 2) b (zpn P b)) (40 + b)) (z_u (z_u Ir (s + 1) b (I b 2)) (s + 2) b (zpn P b)) (s + 4 + b) 20) P J (76 + 3) _ _
        rw [show (z_u (z_u Ir (s + 1) b (I b 2)) (s + 2) b (zpn P b)) (40 + b) = I (40 + b) from funext fun k => (z_u_a _ _ (by have := hs.ge; omega)).trans ((z_u_a _ _ (by have := hs.ge; omega)).trans (hz.1 (40 + b) k (by have := hs.ge; omega)))]
        refine z_iinc (pc := 79) (v := nI (b + 1)) (lv' := [(2, .int (nI (b + 1))), (3, .ref (g.1 b)), (0, .ref (g.1 81)), (1, .ref (g.1 s))]) hC 1 dX4_copyTo_79 rfl (nI_1 b) (by decide) rfl ?_
        refine z_goto (pc := 82) (tgt := 26) hC dX4_copyTo_82 (by decide) ?_
        refine z_lvs (lv' := [(2, .int (nI (b + 1))), (0, .ref (g.1 81)), (1, .ref (g.1 s))]) [0, 2, 3] rfl ?_
        exact ih (b + 1) _ (by omega) (zscp_s hs.ge hb40 hz rfl rfl) (by omega)
  exact L26 41 0 _ (Nat.zero_le _) (zscp_0 hs.ge) (by decide)
theorem nI_m1 {a : Nat} (ha : a < 40) : ¬ nI a = -1 := fun q => by
  have h := (nI_40 ha).1
  rw [q] at h
  exact absurd h (by decide)
set_option maxHeartbeats 4000000 in
set_option maxRecDepth 100000 in
theorem kX4_takeFrom (lx : Launch) (g : zG) (N : Nat) (I : Nat → Nat → Int32) (P : Nat → Nat → Option Nat) (J : Nat → Nat → Int64) (s : Nat) (hs : zsn s N) (ex : Nat → Bool) (hex : ∀ b, b < 40 → I (s + 1) b = zB (ex b)) (hpn : ∀ b, b < 40 → I (s + 2) b = -1 ∨ ∃ a, a < 40 ∧ I (s + 2) b = nI a) : z_Ct lx yX4_takeFrom (zT yX4_takeFrom cX4_takeFrom 4 (Option.none : Option FieldType)) ({ frames := 1, cells := 0, slots := 0, locals := 120 } : Room) g N I P J [.ref (g.1 81), .ref (g.1 s)] (fun v I' P' J' => v = none ∧ J' = J ∧ zsr s 40 I P I' P') 0 0 := by
  refine z_of (by decide) (Nat.le_of_ble_eq_true rfl) (lv0 := [(0, .ref (g.1 81)), (1, .ref (g.1 s))]) rfl ?_
  intro C hlx hC hE hRm
  have hC : zX C cX4_takeFrom 4 RX4 (zT yX4_takeFrom cX4_takeFrom 4 (Option.none : Option FieldType)) g N := hC
  refine z_aload_n (pc := 0) hC 0 dX4_takeFrom_0 rfl rfl z_isr_r ?_
  refine z_aload_n (pc := 1) hC 1 dX4_takeFrom_1 rfl rfl z_isr_r ?_
  refine z_gI (pc := 2) hC 3 3 (x := I s 3) (hs.sh0) (hs.lt (k := 0) (by decide)) rfl inX3 (by decide) rfl zm_4_24 rfl dX4_takeFrom_2 ?_
  refine z_pI (pc := 5) hC 4 2 rfl (z_lt hC (by decide)) rfl inX4 tyX4_ok nmX4 (by decide) rfl zm_1_135 rfl rfl rfl dX4_takeFrom_5 ?_
  refine z_aload_n (pc := 8) hC 0 dX4_takeFrom_8 rfl rfl z_isr_r ?_
  refine z_aload_n (pc := 9) hC 1 dX4_takeFrom_9 rfl rfl z_isr_r ?_
  refine z_gI (pc := 10) hC 3 4 (x := I s 4) (hs.sh0) (hs.lt (k := 0) (by decide)) rfl inX3 (by decide) rfl zm_4_25 (z_u_a _ _ (by have := hs.ge; omega)) dX4_takeFrom_10 ?_
  refine z_pI (pc := 13) hC 4 3 rfl (z_lt hC (by decide)) rfl inX4 tyX4_ok nmX4 (by decide) rfl zm_1_136 rfl rfl rfl dX4_takeFrom_13 ?_
  refine z_aload_n (pc := 16) hC 0 dX4_takeFrom_16 rfl rfl z_isr_r ?_
  refine z_aload_n (pc := 17) hC 1 dX4_takeFrom_17 rfl rfl z_isr_r ?_
  refine z_gI (pc := 18) hC 3 5 (x := I s 5) (hs.sh0) (hs.lt (k := 0) (by decide)) rfl inX3 (by decide) rfl zm_4_26 ((z_u_a _ _ (by have := hs.ge; omega)).trans (z_u_a _ _ (by have := hs.ge; omega))) dX4_takeFrom_18 ?_
  refine z_pI (pc := 21) hC 4 4 rfl (z_lt hC (by decide)) rfl inX4 tyX4_ok nmX4 (by decide) rfl zm_1_139 rfl rfl rfl dX4_takeFrom_21 ?_
  refine z_iconst (pc := 24) (v := 0) hC dX4_takeFrom_24 rfl ?_
  refine z_istore_n (pc := 25) (lv' := [(2, .int 0), (0, .ref (g.1 81)), (1, .ref (g.1 s))]) hC dX4_takeFrom_25 rfl (by decide) rfl ?_
  have L26 : ∀ (zf : Nat) (b : Nat) (Ir : Nat → Nat → Int32) (Pr : Nat → Nat → Option Nat) (hb : b ≤ 40) (hz : zsr s b I P Ir Pr), 40 - b < zf → zJ C g N 4 0 0 Ir Pr J 26 [(2, .int (nI b)), (0, .ref (g.1 81)), (1, .ref (g.1 s))] [] := by
    intro zf
    induction zf with
    | zero =>
      intro b Ir Pr hb hz hn2
      exact absurd hn2 (Nat.not_lt_zero _)
    | succ zf ih =>
      intro b Ir Pr hb hz hn2
      refine z_iload_n (pc := 26) hC 0 dX4_takeFrom_26 rfl rfl ?_
      refine z_bipush (pc := 27) (v := 40) hC dX4_takeFrom_27 rfl ?_
      refine z_icmp_ge (pc := 29) (tgt := 89) hC dX4_takeFrom_29 (by decide) (fun h29 => ?_) (fun h29 => ?_)
      · skip
        have g29 := Int32.not_lt.mpr h29
        have eb : b = 40 := Nat.le_antisymm hb (zc_ge (n := 40) h29 (by omega) (by decide))
        subst eb
        exact z_vret (pc := 89) hC hE dX4_takeFrom_89 ⟨rfl, rfl, hz⟩
      · skip
        have g29 := Int32.not_le.mp h29
        have hb40 : b < 40 := zc_lt (n := 40) h29 (by omega) (by decide)
        refine z_aload_n (pc := 32) hC 1 dX4_takeFrom_32 rfl rfl z_isr_r ?_
        refine z_iload_n (pc := 33) hC 0 dX4_takeFrom_33 rfl rfl ?_
        refine z_cV (pc := 34) (st := []) hC [.int (nI b)] (kX4_at C.2.1 g N Ir Pr J b hb40 (nI b) rfl) rfl (z_lt hC (by decide)) rfl zkX4_at zm_1_231 ⟨rfl, rfl⟩ rfl rfl hRm ⟨Nat.le_of_ble_eq_true rfl, Nat.le_of_ble_eq_true rfl⟩ (Nat.le_of_ble_eq_true rfl) ⟨Nat.zero_le _, Nat.zero_le _⟩ dX4_takeFrom_34 ?_
        refine z_astore_n (pc := 37) (lv' := [(3, .ref (g.1 b)), (2, .int (nI b)), (0, .ref (g.1 81)), (1, .ref (g.1 s))]) hC dX4_takeFrom_37 rfl (by decide) z_isr_r rfl ?_
        refine z_aload_n (pc := 38) hC 0 dX4_takeFrom_38 rfl rfl z_isr_r ?_
        refine z_ifnullR (pc := 39) hC dX4_takeFrom_39 ?_
        refine z_aload_n (pc := 42) hC 0 dX4_takeFrom_42 rfl rfl z_isr_r ?_
        refine z_aload_n (pc := 43) hC 3 dX4_takeFrom_43 rfl rfl z_isr_r ?_
        refine z_gF (pc := 44) hC 3 0 (t := s + 1) (hs.sh0) (hs.lt (k := 0) (by decide)) rfl inX3 (by decide) rfl zm_4_19 (hs.fx 0) dX4_takeFrom_44 ?_
        refine z_iload_n (pc := 47) hC 1 dX4_takeFrom_47 rfl rfl ?_
        refine z_zaN (pc := 48) hC b (x := I (s + 1) b) (hs.sh1) (hs.lt (k := 1) (by decide)) rfl hb40 (by decide) (hz.1 (s + 1) b (by have := hs.ge; omega) (by have := hs.ge; omega) (by have := hs.ge; omega)) dX4_takeFrom_48 ?_
        refine z_pI (pc := 49) hC 0 2 (z_shb hb40) (z_ltb hC hb40) rfl inX0 tyX0_ok nmX0 (by decide) rfl zm_1_44 rfl (z_b01 (by rw [hex b hb40]; exact zB_or _)) (z_f01 (by rw [hex b hb40]; exact zB_or _)) dX4_takeFrom_49 ?_
        refine z_aload_n (pc := 52) hC 0 dX4_takeFrom_52 rfl rfl z_isr_r ?_
        refine z_aload_n (pc := 53) hC 2 dX4_takeFrom_53 rfl rfl z_isr_r ?_
        refine z_aload_n (pc := 54) hC 3 dX4_takeFrom_54 rfl rfl z_isr_r ?_
        refine z_gF (pc := 55) hC 3 1 (t := s + 2) (hs.sh0) (hs.lt (k := 0) (by decide)) rfl inX3 (by decide) rfl zm_4_21 (hs.fx 1) dX4_takeFrom_55 ?_
        refine z_iload_n (pc := 58) hC 1 dX4_takeFrom_58 rfl rfl ?_
        refine z_iaN (pc := 59) hC b (x := I (s + 2) b) (hs.sh2) (hs.lt (k := 2) (by decide)) rfl hb40 (by decide) ((z_u_a _ _ (by have := hs.ge; omega)).trans (hz.1 (s + 2) b (by have := hs.ge; omega) (by have := hs.ge; omega) (by have := hs.ge; omega))) dX4_takeFrom_59 ?_
        rcases hpn b hb40 with hneg | ⟨a, ha, hx2⟩
        · skip
          refine z_cV (pc := 60) (st := [.ref (g.1 b)]) hC [.int (I (s + 2) b)] (kX4_atN C.2.1 g N (z_u Ir b 2 (I (s + 1) b)) Pr J (I (s + 2) b) (by rw [hneg]; decide)) rfl (z_lt hC (by decide)) rfl zkX4_at zm_1_231 ⟨rfl, rfl⟩ rfl rfl hRm ⟨Nat.le_of_ble_eq_true rfl, Nat.le_of_ble_eq_true rfl⟩ (Nat.le_of_ble_eq_true rfl) ⟨Nat.zero_le _, Nat.zero_le _⟩ dX4_takeFrom_60 ?_
          refine z_pP (pc := 63) hC 0 3 (r := none) (z_shb hb40) (z_ltb hC hb40) rfl inX0 tyX0_ok nmX0 (by decide) rfl zm_1_47 rfl rfl rfl dX4_takeFrom_63 ?_
          refine z_aload_n (pc := 66) hC 3 dX4_takeFrom_66 rfl rfl z_isr_r ?_
          refine z_gF (pc := 67) hC 3 2 (t := s + 3) (hs.sh0) (hs.lt (k := 0) (by decide)) rfl inX3 (by decide) rfl zm_4_23 (hs.fx 2) dX4_takeFrom_67 ?_
          refine z_iload_n (pc := 70) hC 1 dX4_takeFrom_70 rfl rfl ?_
          refine z_aald5 (pc := 71) hC hs b rfl hb40 dX4_takeFrom_71 ?_
          refine z_iconst (pc := 72) (v := 0) hC dX4_takeFrom_72 rfl ?_
          refine z_aload_n (pc := 73) hC 0 dX4_takeFrom_73 rfl rfl z_isr_r ?_
          refine z_gF (pc := 74) hC 0 1 (t := 40 + b) (z_shb hb40) (z_ltb hC hb40) rfl inX0 (by decide) rfl zm_1_42 (z_fxb hb40) dX4_takeFrom_74 ?_
          refine z_iconst (pc := 77) (v := 0) hC dX4_takeFrom_77 rfl ?_
          refine z_bipush (pc := 78) (v := 20) hC dX4_takeFrom_78 rfl ?_
          refine z_cpyN (pc := 80) (st := []) hC (s + 4 + b) (40 + b) (hs.sh4 hb40) (z_shs hb40) (by have := hs.2; omega) (z_lts hC hb40) (zm_4_45) (zm_4_46) (zm_1_15) hRm (Nat.le_of_ble_eq_true rfl) (Nat.le_of_ble_eq_true rfl) dX4_takeFrom_80 ?_
          rw [show (z_u Ir b 2 (I (s + 1) b)) (s + 4 + b) = I (s + 4 + b) from funext fun k => (z_u_a _ _ (by have := hs.ge; omega)).trans (hz.1 (s + 4 + b) k (by have := hs.ge; omega) (by have := hs.ge; omega) (by have := hs.ge; omega))]
          refine z_iinc (pc := 83) (v := nI (b + 1)) (lv' := [(2, .int (nI (b + 1))), (3, .ref (g.1 b)), (0, .ref (g.1 81)), (1, .ref (g.1 s))]) hC 1 dX4_takeFrom_83 rfl (nI_1 b) (by decide) rfl ?_
          refine z_goto (pc := 86) (tgt := 26) hC dX4_takeFrom_86 (by decide) ?_
          refine z_lvs (lv' := [(2, .int (nI (b + 1))), (0, .ref (g.1 81)), (1, .ref (g.1 s))]) [0, 2, 3] rfl ?_
          exact ih (b + 1) _ _ (by omega) (zsr_s hs.ge hb40 hz rfl (fun _ => rfl) (fun a2 ha2 q => absurd ((hneg.symm.trans q).symm) (nI_m1 ha2))) (by omega)
        · skip
          refine z_cV (pc := 60) (st := [.ref (g.1 b)]) hC [.int (I (s + 2) b)] (kX4_at C.2.1 g N (z_u Ir b 2 (I (s + 1) b)) Pr J a ha (I (s + 2) b) hx2) rfl (z_lt hC (by decide)) rfl zkX4_at zm_1_231 ⟨rfl, rfl⟩ rfl rfl hRm ⟨Nat.le_of_ble_eq_true rfl, Nat.le_of_ble_eq_true rfl⟩ (Nat.le_of_ble_eq_true rfl) ⟨Nat.zero_le _, Nat.zero_le _⟩ dX4_takeFrom_60 ?_
          refine z_pP (pc := 63) hC 0 3 (r := (some a)) (z_shb hb40) (z_ltb hC hb40) rfl inX0 tyX0_ok nmX0 (by decide) rfl zm_1_47 rfl rfl rfl dX4_takeFrom_63 ?_
          refine z_aload_n (pc := 66) hC 3 dX4_takeFrom_66 rfl rfl z_isr_r ?_
          refine z_gF (pc := 67) hC 3 2 (t := s + 3) (hs.sh0) (hs.lt (k := 0) (by decide)) rfl inX3 (by decide) rfl zm_4_23 (hs.fx 2) dX4_takeFrom_67 ?_
          refine z_iload_n (pc := 70) hC 1 dX4_takeFrom_70 rfl rfl ?_
          refine z_aald5 (pc := 71) hC hs b rfl hb40 dX4_takeFrom_71 ?_
          refine z_iconst (pc := 72) (v := 0) hC dX4_takeFrom_72 rfl ?_
          refine z_aload_n (pc := 73) hC 0 dX4_takeFrom_73 rfl rfl z_isr_r ?_
          refine z_gF (pc := 74) hC 0 1 (t := 40 + b) (z_shb hb40) (z_ltb hC hb40) rfl inX0 (by decide) rfl zm_1_42 (z_fxb hb40) dX4_takeFrom_74 ?_
          refine z_iconst (pc := 77) (v := 0) hC dX4_takeFrom_77 rfl ?_
          refine z_bipush (pc := 78) (v := 20) hC dX4_takeFrom_78 rfl ?_
          refine z_cpyN (pc := 80) (st := []) hC (s + 4 + b) (40 + b) (hs.sh4 hb40) (z_shs hb40) (by have := hs.2; omega) (z_lts hC hb40) (zm_4_45) (zm_4_46) (zm_1_15) hRm (Nat.le_of_ble_eq_true rfl) (Nat.le_of_ble_eq_true rfl) dX4_takeFrom_80 ?_
          rw [show (z_u Ir b 2 (I (s + 1) b)) (s + 4 + b) = I (s + 4 + b) from funext fun k => (z_u_a _ _ (by have := hs.ge; omega)).trans (hz.1 (s + 4 + b) k (by have := hs.ge; omega) (by have := hs.ge; omega) (by have := hs.ge; omega))]
          refine z_iinc (pc := 83) (v := nI (b + 1)) (lv' := [(2, .int (nI (b + 1))), (3, .ref (g.1 b)), (0, .ref (g.1 81)), (1, .ref (g.1 s))]) hC 1 dX4_takeFrom_83 rfl (nI_1 b) (by decide) rfl ?_
          refine z_goto (pc := 86) (tgt := 26) hC dX4_takeFrom_86 (by decide) ?_
          refine z_lvs (lv' := [(2, .int (nI (b + 1))), (0, .ref (g.1 81)), (1, .ref (g.1 s))]) [0, 2, 3] rfl ?_
          exact ih (b + 1) _ _ (by omega) (zsr_s hs.ge hb40 hz rfl (fun q => absurd (hx2.symm.trans q) (nI_m1 ha)) (fun a2 ha2 q => congrArg some ((nI_eq (by omega) (by omega)).mp (hx2.symm.trans q)))) (by omega)
  exact L26 41 0 _ _ (Nat.zero_le _) zsr_0 (by decide)
end ZSN
