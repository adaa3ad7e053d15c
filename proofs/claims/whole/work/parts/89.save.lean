section ZSV
/-! a method at whose end the world may have grown -/
theorem vx_MQ_mono {below : List Frame} {Qc Qd : Array Value → State → Outcome → State → Prop} {XC XD : String → State → State → Prop} {a : Array Value} {s : State} {mc ms : Nat} {free : Addr → Prop} (h1 : ∀ o t, Qc a s o t → Qd a s o t) (h2 : ∀ E t, XC E s t → XD E s t) {t : State} (h : vx_MQ below Qc XC a s mc ms free t) : vx_MQ below Qd XD a s mc ms free t := by
  obtain ⟨o, b1, b2, b3⟩ := h
  refine ⟨o, b1, b2, ?_⟩
  rcases b3 with ⟨q, L⟩ | ⟨q, e, E, ce, L, x, rest⟩
  · exact Or.inl ⟨h1 o t q, L⟩
  · exact Or.inr ⟨q, e, E, ce, L, h2 E t x, rest⟩
def zCq (C : zC) (Q : State → Prop) : zC := (C.1, C.2.1, C.2.2.1, C.2.2.2.1, C.2.2.2.2.1, C.2.2.2.2.2.1, C.2.2.2.2.2.2.1, C.2.2.2.2.2.2.2.1, C.2.2.2.2.2.2.2.2.1, C.2.2.2.2.2.2.2.2.2.1, Q)
theorem zJ_Q {C : zC} {g : zG} {N nL cells slots : Nat} {I : Nat → Nat → Int32} {P : Nat → Nat → Option Nat} {J : Nat → Nat → Int64} {pc : Nat} {lv : List (Nat × Value)} {st : List Value} (Q : State → Prop) (h : ∀ t, Q t → C.2.2.2.2.2.2.2.2.2.2 t) (k : zJ (zCq C Q) g N nL cells slots I P J pc lv st) : zJ C g N nL cells slots I P J pc lv st := fun H locs ls hP hS hl T hT X => by
  obtain ⟨t, a, b⟩ := k H locs ls hP hS hl T hT X
  exact ⟨t, a, h t b⟩
/-- the end: in the world g, N or in a bigger one -/
def z_QG (g : zG) (post : (Nat → Nat) → Nat → Option Value → (Nat → Nat → Int32) → (Nat → Nat → Option Nat) → (Nat → Nat → Int64) → Prop) : Array Value → State → Outcome → State → Prop := fun _ st oc t => (∃ v f N' I P J, oc = .returned v ∧ post f N' v I P J ∧ z_gd (f, g.2) N' ∧ va_P g.2.1 vwCl (z_wl (f, g.2) N' I P J) t.heap) ∧ va_F (z_A g) st t
def z_CtG (l : Launch) (y : MethodName) (ws : List Cond) (rm : Room) (g : zG) (sa : Nat → Nat) (N : Nat) (I : Nat → Nat → Int32) (P : Nat → Nat → Option Nat) (J : Nat → Nat → Int64) (av : List Value) (post : (Nat → Nat) → Nat → Option Value → (Nat → Nat → Int32) → (Nat → Nat → Option Nat) → (Nat → Nat → Int64) → Prop) (xp : String → (Nat → Nat → Int32) → (Nat → Nat → Option Nat) → (Nat → Nat → Int64) → Prop) (mc ms : Nat) : Prop :=
  vx_Met l y ws rm (va_Pc av (fun U => z_W g N I P J U ∧ z_KX g sa U ∧ z_AOs g U)) (z_QG g post) (zXC g N xp) mc ms (z_A g)
def zEG (C : zC) (g : zG) (N mc ms : Nat) (ret : Option FieldType) (post : (Nat → Nat) → Nat → Option Value → (Nat → Nat → Int32) → (Nat → Nat → Option Nat) → (Nat → Nat → Int64) → Prop) (xp : String → (Nat → Nat → Int32) → (Nat → Nat → Option Nat) → (Nat → Nat → Int64) → Prop) : Prop := C.2.2.2.2.2.2.2.2.1.sig.returnType = ret ∧ C.2.2.2.2.2.2.2.2.1.locks = false ∧ C.2.2.2.2.2.2.2.2.2.2 = vx_MQ C.2.2.2.2.2.2.2.1 (z_QG g post) (zXC g N xp) C.2.2.2.2.2.2.1 C.2.2.2.2.1 mc ms (z_A g) ∧ ∀ x ∈ C.2.2.2.2.2.2.2.2.2.1.exceptionTable.toList, False
section
variable {C : zC} {g : zG} {sa : Nat → Nat} {N nL : Nat} {I : Nat → Nat → Int32} {P : Nat → Nat → Option Nat} {J : Nat → Nat → Int64} {pc : Nat} {lv : List (Nat × Value)} {st : List Value} {cc : ByteArray} {own : String} {w0 : Cond} {cells slots mc ms : Nat} {Ts : List Cond}
variable {post : (Nat → Nat) → Nat → Option Value → (Nat → Nat → Int32) → (Nat → Nat → Option Nat) → (Nat → Nat → Int64) → Prop} {xp : String → (Nat → Nat → Int32) → (Nat → Nat → Option Nat) → (Nat → Nat → Int64) → Prop}
theorem z_ofG {l : Launch} {y : MethodName} {rm : Room} {av : List Value} {maxL : Nat} {ret : Option FieldType} (hy : plainName y.cls = true) (hn : (lg_sl av).length ≤ maxL) {lv0 : List (Nat × Value)} (hl0 : lv_args 0 av = lv0)
    (body : ∀ C : zC, C.2.1 = l → zX C cc maxL y.cls (zT y cc maxL ret) g N → zX0 C cc maxL y.cls (zT y cc maxL ret) g → zEG C g N mc ms ret post xp → C.2.2.2.1 = rm → z_KX g sa C.2.2.2.2.1 → zJ C g N maxL 0 0 I P J 0 lv0 []) : z_CtG l y (zT y cc maxL ret) rm g sa N I P J av post xp mc ms := by
  subst hl0
  refine vx_ofW (cc := cc) (maxL := maxL) (ret := ret) hy rfl ?_
  intro p e s m args below meth c s₁ B hml htb hv
  obtain ⟨rfl, ⟨hP, hK, hG⟩, hX, hAO⟩ := hv
  have hts := atoms_spec (ws := zT y cc maxL ret) B.pre
  have hown : s.vm.findClass y.cls = some m.cls := findClass_of_methodNamed B.named
  have hsz : g.2.2.2.2 ≤ s.heap.size := Nat.le_trans (hG.2.2 0 (Nat.lt_of_lt_of_le (by decide) hG.1)) (Nat.le_of_lt (hP 0 _ (z_wl_get (Nat.lt_of_lt_of_le (by decide) hG.1))).lt)
  have h := body (p, l, e, (headSpec (zT y cc maxL ret) rm).room, s, m, av.toArray, below, meth, c, vx_MQ below (z_QG g post) (zXC g N xp) av.toArray s mc ms (z_A g)) rfl ⟨B.exec, B.bytes, hml, hown, hts, hK, hG⟩ ⟨B.exec, B.bytes, hml, hown, hts, hK, hAO, hsz⟩ ⟨B.returns, B.notSynchronized, rfl, htb⟩ rfl hX
  rw [lg_entry_eq]
  exact h s.heap [] _ hP va_S.rf (lv_entry av hn)
/-- to an end in a world that is known -/
theorem zEG.to {ret : Option FieldType} (hE : zEG C g N mc ms ret post xp) {f : Nat → Nat} {N' : Nat} (hG : z_gd (f, g.2) N') {p1 : Option Value → (Nat → Nat → Int32) → (Nat → Nat → Option Nat) → (Nat → Nat → Int64) → Prop} (hp : ∀ v I P J, p1 v I P J → post f N' v I P J)
    (k : ∀ C1 : zC, C1 = zCq C (vx_MQ C.2.2.2.2.2.2.2.1 (z_Q (f, g.2) N' p1) (zXC (f, g.2) N' (fun _ _ _ _ => False)) C.2.2.2.2.2.2.1 C.2.2.2.2.1 mc ms (z_A g)) → zEX C1 (f, g.2) N' mc ms ret p1 (fun _ _ _ _ => False) → zJ C1 (f, g.2) N' nL cells slots I P J pc lv st) : zJ C (f, g.2) N' nL cells slots I P J pc lv st := by
  refine zJ_Q _ (fun t h => ?_) (k _ rfl ⟨hE.1, hE.2.1, rfl, hE.2.2.2⟩)
  rw [hE.2.2.1]
  refine vx_MQ_mono (fun o t q => ?_) (fun E t q => ?_) h
  · obtain ⟨⟨v, I1, P1, J1, ho, hp1, hP1⟩, hF⟩ := q
    exact ⟨⟨v, f, N', I1, P1, J1, ho, hp v I1 P1 J1 hp1, hG, hP1⟩, hF⟩
  · obtain ⟨⟨I1, P1, J1, hf, -⟩, -⟩ := q
    exact hf.elim
/-- .. or in the same world -/
theorem zEG.same {ret : Option FieldType} (hE : zEG C g N mc ms ret post xp) (hG : z_gd g N)
    (k : ∀ C1 : zC, C1 = zCq C (vx_MQ C.2.2.2.2.2.2.2.1 (z_Q g N (post g.1 N)) (zXC g N xp) C.2.2.2.2.2.2.1 C.2.2.2.2.1 mc ms (z_A g)) → zEX C1 g N mc ms ret (post g.1 N) xp → zJ C1 g N nL cells slots I P J pc lv st) : zJ C g N nL cells slots I P J pc lv st := by
  refine zJ_Q _ (fun t h => ?_) (k _ rfl ⟨hE.1, hE.2.1, rfl, hE.2.2.2⟩)
  rw [hE.2.2.1]
  refine vx_MQ_mono (fun o t q => ?_) (fun E t q => q) h
  obtain ⟨⟨v, I1, P1, J1, ho, hp1, hP1⟩, hF⟩ := q
  exact ⟨⟨v, g.1, N, I1, P1, J1, ho, hp1, hG, hP1⟩, hF⟩
theorem zJ_I (hG : z_gd g N) (k : zI C g nL cells slots (z_wl g N I P J) pc lv st) : zJ C g N nL cells slots I P J pc lv st := fun H locs ls hP hS hl => k H locs ls hP (z_D hG) hS hl
theorem zI_J {q x y z : Nat} {r : Nat → Nat} (hG : z_gd g N) (hs : zsn N (N + 44)) (k : ∀ f : Nat → Nat, (∀ i, i < N → f i = g.1 i) → f N = q → z_gd (f, g.2) (N + 44) → zJ C (f, g.2) (N + 44) nL cells slots (zsh0 N I) (zshP N P) J pc lv st) : zI C g nL cells slots (zYg g N I P J q x y z r) pc lv st := fun H locs ls hP hD hS hl => k (zgw g N q x y z r) (fun i hi => zgw_o hi) zgw_n (zYg_gd hG hD) H locs ls (zYg_P hG hs hP) hS hl
/-- a snapshot into its slot -/
theorem z_slS (hC : zX C cc nL own Ts g N) (k b : Nat) {x : Int32} (hN : 85 < N) (hi : x = nI k) (hk : k < 2) (hb : z_sh b = (false, 3, 0)) (hbN : b < N) (hdg : decode cc pc = .ok (.aastore, 1)) (kk : zJ C g N nL cells slots I (z_u P 85 k (some b)) J (pc + 1) lv st) : zJ C g N nL cells slots I P J pc lv (.ref (g.1 b) :: .int x :: .ref (g.1 85) :: st) := by
  subst hi
  have e : (nI k).toNatClampNeg = k := nI_clamp (by omega)
  refine fun H locs ls hP hS hl => va_astq (f := z_el g P 85 4) (vs := z_ob g I P b 3) hC.1 hC.2.1 hC.2.2.2.2.2.1.1 hP (z_D hC.2.2.2.2.2.2) hS 85 4 b 3 (by rw [z_wl_get hN]; rfl) rfl (by rw [z_wl_get hbN, z_cn_ob hb]) rfl (vp_in_nI hk (by decide)) hdg (fun H1 locs1 hP1 _ hS1 => kk H1 locs1 ls ?_ hS1 hl)
  rw [e, z_wl_set hN (I' := I) (P' := z_u P 85 k (some b)) (J' := J) ?_ ?_] at hP1
  · exact hP1
  · have e2 : z_el g (z_u P 85 k (some b)) 85 4 = va_up (z_el g P 85 4) k (some (g.1 b)) := by
      funext j
      show (z_u P 85 k (some b) 85 j).map g.1 = if j = k then some (g.1 b) else (P 85 j).map g.1
      by_cases h : j = k
      · rw [if_pos h, h, z_u_s]
        rfl
      · rw [if_neg h, z_u_b _ _ h]
    rw [z_cn_ar (id := 85) (t := 4) (n := 2) rfl]
    unfold z_ar
    rw [e2]
    rfl
  · intro j hj
    exact z_cn_congr rfl (z_u_r _ _ hj) rfl
end
theorem zCl_I {σ : zS} {I I' : Nat → Nat → Int32} {P : Nat → Nat → Option Nat} (e : ∀ q j, q < 111 → I' q j = I q j) (h : zCl σ I P) : zCl σ I' P := by
  have lt : ∀ b, sEx σ b = true → b < 40 := fun b hb => zTr_lt h.1 hb
  obtain ⟨⟨t1, t2, t3, t4, t5, t6, t7, t8, t9, t10⟩, ⟨r1, r2, r3⟩, ha⟩ := h
  refine ⟨⟨t1, fun b hb => (e b 0 (by omega)).trans (t2 b hb), fun b hb => (e b 2 (by omega)).trans (t3 b hb), t4, t5, t6, fun b k hb hk => (e _ k (by have := lt b hb; omega)).trans (t7 b k hb hk), (e 81 2 (by decide)).trans t8, (e 81 3 (by decide)).trans t9, (e 81 4 (by decide)).trans t10⟩, ⟨(e 0 12 (by decide)).trans r1, (e 0 13 (by decide)).trans r2, (e 0 17 (by decide)).trans r3⟩, fun q => ?_⟩
  obtain ⟨⟨l1, l2⟩, a⟩ := ha ((e 82 2 (by decide)).symm.trans q)
  refine ⟨⟨fun p hp => ?_, l2⟩, fun b hb => ?_⟩
  · obtain ⟨c1, c2, c3, c4⟩ := l1 p hp
    exact ⟨(e p 4 (by omega)).trans c1, (e p 5 (by omega)).trans c2, (e p 8 (by omega)).trans c3, c4⟩
  · have hb4 := (sSh_ex t1 hb).1
    obtain ⟨a1, a2, a3, a4, a5, a6, a7, a8⟩ := a b hb
    exact ⟨(e b 10 (by omega)).trans a1, (e b 11 (by omega)).trans a2, (e b 12 (by omega)).trans a3, (e b 13 (by omega)).trans a4, (e b 14 (by omega)).trans a5, (e b 15 (by omega)).trans a6, (e b 16 (by omega)).trans a7, (e b 17 (by omega)).trans a8⟩
theorem zshP_s {N q j a : Nat} {P : Nat → Nat → Option Nat} (h : P q j = some a) (ha : a < N) : zshP N P q j = some a := by
  unfold zshP zshN
  rw [h]
  show some (if a < N then a else a + 44) = some a
  rw [if_pos ha]
theorem zshP_n {N q j : Nat} {P : Nat → Nat → Option Nat} (h : P q j = none) : zshP N P q j = none := by
  unfold zshP
  rw [h]
  rfl
theorem zchain_sh {N : Nat} {P : Nat → Nat → Option Nat} : ∀ {l : List Nat} {o : Option Nat}, (∀ c ∈ l, c < N) → zchain P o l → zchain (zshP N P) (o.map (zshN N)) l
  | [], o, _, h => by
    have e : o = none := h
    rw [e]
    rfl
  | c :: l, o, hl, h => by
    obtain ⟨e, h2⟩ := h
    rw [e]
    refine ⟨?_, zchain_sh (fun d hd => hl d (List.mem_cons_of_mem _ hd)) h2⟩
    show some (zshN N c) = some c
    unfold zshN
    rw [if_pos (hl c (List.mem_cons_self ..))]
theorem zCl_sP {σ : zS} {I : Nat → Nat → Int32} {P : Nat → Nat → Option Nat} {N : Nat} (hN : 111 ≤ N) (h : zCl σ I P) : zCl σ I (zshP N P) := by
  have lt : ∀ b, sEx σ b = true → b < 40 := fun b hb => zTr_lt h.1 hb
  obtain ⟨⟨t1, t2, t3, t4, t5, t6, t7, t8, t9, t10⟩, hr, ha⟩ := h
  refine ⟨⟨t1, t2, t3, fun b hb h0 => zshP_s (t4 b hb h0) (by have := t6 b _ (lt b hb) (t4 b hb h0); omega), zshP_n t5, fun b a hb q => ?_, t7, t8, t9, t10⟩, hr, fun q => ?_⟩
  · cases e : P b 3 with
    | none =>
      rw [zshP_n e] at q
      cases q
    | some a0 =>
      have h0 := t6 b a0 hb e
      rw [zshP_s e (by omega)] at q
      cases q
      exact h0
  · obtain ⟨⟨l1, l2⟩, a⟩ := ha q
    refine ⟨⟨fun p hp => ?_, zshP_n l2⟩, a⟩
    obtain ⟨c1, c2, c3, c4⟩ := l1 p hp
    exact ⟨c1, c2, c3, zchain_sh (fun c hc => by have := (sKids_lt t1 hc).2.1; omega) c4⟩
theorem zchain_u {P : Nat → Nat → Option Nat} {k : Nat} {v : Option Nat} : ∀ {l : List Nat} {o : Option Nat}, (∀ c ∈ l, c < 40) → zchain P o l → zchain (z_u P 85 k v) o l
  | [], _, _, h => h
  | c :: l, o, hl, h => by
    obtain ⟨e, h2⟩ := h
    refine ⟨e, ?_⟩
    rw [z_u_a _ _ (by have := hl c (List.mem_cons_self ..); omega)]
    exact zchain_u (fun d hd => hl d (List.mem_cons_of_mem _ hd)) h2
theorem zCl_u {σ : zS} {I : Nat → Nat → Int32} {P : Nat → Nat → Option Nat} {k : Nat} {v : Option Nat} (h : zCl σ I P) : zCl σ I (z_u P 85 k v) := by
  have lt : ∀ b, sEx σ b = true → b < 40 := fun b hb => zTr_lt h.1 hb
  obtain ⟨⟨t1, t2, t3, t4, t5, t6, t7, t8, t9, t10⟩, hr, ha⟩ := h
  refine ⟨⟨t1, t2, t3, fun b hb h0 => (z_u_a _ _ (by have := lt b hb; omega)).trans (t4 b hb h0), (z_u_a _ _ (by decide)).trans t5, fun b a hb q => t6 b a hb ((z_u_a _ _ (by omega)).symm.trans q), t7, t8, t9, t10⟩, hr, fun q => ?_⟩
  obtain ⟨⟨l1, l2⟩, a⟩ := ha q
  refine ⟨⟨fun p hp => ?_, (z_u_a _ _ (by decide)).trans l2⟩, a⟩
  obtain ⟨c1, c2, c3, c4⟩ := l1 p hp
  refine ⟨c1, c2, c3, ?_⟩
  rw [z_u_a _ _ (by omega)]
  exact zchain_u (fun c hc => (sKids_lt t1 hc).2.1) c4
/-- what save leaves -/
def zSvP (σ : zS) (g : zG) (N : Nat) (I : Nat → Nat → Int32) (P : Nat → Nat → Option Nat) (J : Nat → Nat → Int64) (x : Int32) : (Nat → Nat) → Nat → Option Value → (Nat → Nat → Int32) → (Nat → Nat → Option Nat) → (Nat → Nat → Int64) → Prop := fun f N' v I' P' J' => v = none ∧ J' = J ∧ (∀ i, i < N → f i = g.1 i) ∧ ∃ t s, x = nI t ∧ t < 2 ∧ zCl σ I' P' ∧ zsn s N' ∧ zSn σ I' s ∧ P' 85 t = some s ∧ (∀ q j, 95 ≤ q → q < N → ¬ (s ≤ q ∧ q < s + 44) → I' q j = I q j) ∧ (∀ t2, t2 ≠ t → (P 85 t2 = none → P' 85 t2 = none) ∧ ∀ a, a < N → P 85 t2 = some a → P' 85 t2 = some a) ∧ ((N' = N ∧ P 85 t = some s) ∨ (N' = N + 44 ∧ s = N ∧ P 85 t = none))
theorem zSv_a {σ : zS} {g : zG} {N t s : Nat} {I I' : Nat → Nat → Int32} {P : Nat → Nat → Option Nat} {J : Nat → Nat → Int64} (hc : zCl σ I P) (ht : t < 2) (hs : zsn s N) (hp : P 85 t = some s) (hz : zscp s P 40 I I') : zSvP σ g N I P J (nI t) g.1 N none I' P J := by
  refine ⟨rfl, rfl, fun _ _ => rfl, t, s, rfl, ht, zCl_I (fun q j hq => hz.1 q j (by have := hs.ge; omega)) hc, hs, zSn_of hc.1 hz, hp, fun q j _ _ hq => hz.1 q j hq, fun t2 _ => ⟨fun q => q, fun a _ q => q⟩, Or.inl ⟨rfl, hp⟩⟩
theorem zSv_b {σ : zS} {g : zG} {N t : Nat} {f : Nat → Nat} {I I' : Nat → Nat → Int32} {P : Nat → Nat → Option Nat} {J : Nat → Nat → Int64} (hN : 111 ≤ N) (hf : ∀ i, i < N → f i = g.1 i) (hc : zCl σ (zsh0 N I) (z_u (zshP N P) 85 t (some N))) (ht : t < 2) (hs : zsn N (N + 44)) (hp : P 85 t = none) (hz : zscp N (z_u (zshP N P) 85 t (some N)) 40 (zsh0 N I) I') : zSvP σ g N I P J (nI t) f (N + 44) none I' (z_u (zshP N P) 85 t (some N)) J := by
  refine ⟨rfl, rfl, hf, t, N, rfl, ht, zCl_I (fun q j hq => hz.1 q j (by omega)) hc, hs, zSn_of hc.1 hz, z_u_s _ _ _ _, fun q j _ h1 hq => (hz.1 q j hq).trans (if_neg (by omega)), fun t2 h2 => ⟨fun q => (z_u_b _ _ h2).trans (zshP_n q), fun a ha q => (z_u_b _ _ h2).trans (zshP_s q ha)⟩, Or.inr ⟨rfl, rfl, hp⟩⟩
theorem zkX5_save : z_pkV yX5_save cX5_save 3 (Option.none : Option FieldType) RX5 1 := ⟨zm_4_7, zm_4_8, zm_1_1, zm_4_9, rfl, by decide, by decide, by decide +kernel⟩
theorem zSv_45a {C : zC} {g : zG} {N : Nat} {I : Nat → Nat → Int32} {P : Nat → Nat → Option Nat} {J : Nat → Nat → Int64} {post : Option Value → (Nat → Nat → Int32) → (Nat → Nat → Option Nat) → (Nat → Nat → Int64) → Prop} {xp : String → (Nat → Nat → Int32) → (Nat → Nat → Option Nat) → (Nat → Nat → Int64) → Prop} (hC : zX C cX5_save 3 RX5 (zT yX5_save cX5_save 3 (Option.none : Option FieldType)) g N) (hE : zEX C g N 44 926 none post xp) (hRm : C.2.2.2.1 = ({ frames := 6, cells := 44, slots := 926, locals := 143 } : Room)) {σ : zS} (hc : zCl σ I P) (x : Int32) (s : Nat) (hs : zsn s N) (hpost : ∀ I2, zscp s P 40 I I2 → post none I2 P J) : zJ C g N 3 0 0 I P J 45 [(2, .ref (g.1 s)), (0, .ref (g.1 80)), (1, .int x)] [] := by
  refine z_aload_n (pc := 45) hC 1 dX5_save_45 rfl rfl z_isr_r ?_
  refine z_gF (pc := 46) hC 5 0 (t := 81) rfl (z_lt hC (by decide)) rfl inX5 (by decide) rfl zm_1_213 rfl dX5_save_46 ?_
  refine z_aload_n (pc := 49) hC 0 dX5_save_49 rfl rfl z_isr_r ?_
  refine z_callV (pc := 50) (st := []) hC [.ref (g.1 s)] (kX4_copyTo C.2.1 g N I P J s hs hc.1.2.1 hc.1.2.2.2.2.2.1 (sEx σ) hc.1.2.2.1) rfl (z_lt hC (by decide)) rfl zkX4_copyTo zm_4_40 ⟨rfl, rfl⟩ rfl rfl hRm ⟨Nat.le_of_ble_eq_true rfl, Nat.le_of_ble_eq_true rfl⟩ (Nat.le_of_ble_eq_true rfl) ⟨Nat.le_of_ble_eq_true rfl, Nat.le_of_ble_eq_true rfl⟩ dX5_save_50 ?_
  intro v I2 P2 J2 hq
  obtain ⟨hv, hP2, hJ2, hz⟩ := hq
  subst hv
  rw [hP2, hJ2]
  show zJ C g N 3 0 0 I2 P J 53 [(2, .ref (g.1 s)), (0, .ref (g.1 80)), (1, .int x)] []
  exact z_vretX (pc := 53) hC hE ⟨by decide, by decide⟩ dX5_save_53 (hpost I2 hz)
theorem zSv_45b {C : zC} {g : zG} {N : Nat} {I : Nat → Nat → Int32} {P : Nat → Nat → Option Nat} {J : Nat → Nat → Int64} {post : Option Value → (Nat → Nat → Int32) → (Nat → Nat → Option Nat) → (Nat → Nat → Int64) → Prop} {xp : String → (Nat → Nat → Int32) → (Nat → Nat → Option Nat) → (Nat → Nat → Int64) → Prop} (hC : zX C cX5_save 3 RX5 (zT yX5_save cX5_save 3 (Option.none : Option FieldType)) g N) (hE : zEX C g N 44 926 none post xp) (hRm : C.2.2.2.1 = ({ frames := 6, cells := 44, slots := 926, locals := 143 } : Room)) {σ : zS} (hc : zCl σ I P) (x : Int32) (s : Nat) (hs : zsn s N) (hpost : ∀ I2, zscp s P 40 I I2 → post none I2 P J) : zJ C g N 3 44 926 I P J 45 [(2, .ref (g.1 s)), (0, .ref (g.1 80)), (1, .int x)] [] := by
  refine z_aload_n (pc := 45) hC 1 dX5_save_45 rfl rfl z_isr_r ?_
  refine z_gF (pc := 46) hC 5 0 (t := 81) rfl (z_lt hC (by decide)) rfl inX5 (by decide) rfl zm_1_213 rfl dX5_save_46 ?_
  refine z_aload_n (pc := 49) hC 0 dX5_save_49 rfl rfl z_isr_r ?_
  refine z_callV (pc := 50) (st := []) hC [.ref (g.1 s)] (kX4_copyTo C.2.1 g N I P J s hs hc.1.2.1 hc.1.2.2.2.2.2.1 (sEx σ) hc.1.2.2.1) rfl (z_lt hC (by decide)) rfl zkX4_copyTo zm_4_40 ⟨rfl, rfl⟩ rfl rfl hRm ⟨Nat.le_of_ble_eq_true rfl, Nat.le_of_ble_eq_true rfl⟩ (Nat.le_of_ble_eq_true rfl) ⟨Nat.le_of_ble_eq_true rfl, Nat.le_of_ble_eq_true rfl⟩ dX5_save_50 ?_
  intro v I2 P2 J2 hq
  obtain ⟨hv, hP2, hJ2, hz⟩ := hq
  subst hv
  rw [hP2, hJ2]
  show zJ C g N 3 44 926 I2 P J 53 [(2, .ref (g.1 s)), (0, .ref (g.1 80)), (1, .int x)] []
  exact z_vretX (pc := 53) hC hE ⟨by decide, by decide⟩ dX5_save_53 (hpost I2 hz)
theorem zSv_38 {C : zC} {g : zG} {N : Nat} {I : Nat → Nat → Int32} {P : Nat → Nat → Option Nat} {J : Nat → Nat → Int64} {post : Option Value → (Nat → Nat → Int32) → (Nat → Nat → Option Nat) → (Nat → Nat → Int64) → Prop} {xp : String → (Nat → Nat → Int32) → (Nat → Nat → Option Nat) → (Nat → Nat → Int64) → Prop} (hC : zX C cX5_save 3 RX5 (zT yX5_save cX5_save 3 (Option.none : Option FieldType)) g N) (hE : zEX C g N 44 926 none post xp) (hRm : C.2.2.2.1 = ({ frames := 6, cells := 44, slots := 926, locals := 143 } : Room)) {σ : zS} (hc : zCl σ I P) (t : Nat) (ht : t < 2) (s : Nat) (hs : zsn s N) (hpost : ∀ I2, zscp s (z_u P 85 t (some s)) 40 I I2 → post none I2 (z_u P 85 t (some s)) J) : zJ C g N 3 44 926 I P J 38 [(2, .ref (g.1 s)), (0, .ref (g.1 80)), (1, .int (nI t))] [] := by
  refine z_aload_n (pc := 38) hC 1 dX5_save_38 rfl rfl z_isr_r ?_
  refine z_gF (pc := 39) hC 5 2 (t := 85) rfl (z_lt hC (by decide)) rfl inX5 (by decide) rfl zm_1_215 rfl dX5_save_39 ?_
  refine z_iload_n (pc := 42) hC 2 dX5_save_42 rfl rfl ?_
  refine z_aload_n (pc := 43) hC 0 dX5_save_43 rfl rfl z_isr_r ?_
  refine z_slS (pc := 44) hC t s (z_lt hC (by decide)) rfl ht hs.sh0 (hs.lt (k := 0) (by decide)) dX5_save_44 ?_
  exact zSv_45b hC hE hRm (zCl_u hc) (nI t) s hs hpost
theorem kX5_save (lx : Launch) (hst : lx.stackTraces = false) (g : zG) (sa : Nat → Nat) (N : Nat) (I : Nat → Nat → Int32) (P : Nat → Nat → Option Nat) (J : Nat → Nat → Int64) {σ : zS} (hc : zCl σ I P) (hNf : ∃ c, N = 111 + 44 * c) (hsl : ∀ t s, t < 2 → P 85 t = some s → zsn s N) (x : Int32) : z_CtG lx yX5_save (zT yX5_save cX5_save 3 (Option.none : Option FieldType)) ({ frames := 6, cells := 44, slots := 926, locals := 143 } : Room) g sa N I P J [.ref (g.1 80), .int x] (zSvP σ g N I P J x) (zXp σ I P J (fun E => zc2 x E)) 44 926 := by
  refine z_ofG (by decide) (Nat.le_of_ble_eq_true rfl) (lv0 := [(0, .ref (g.1 80)), (1, .int x)]) rfl ?_
  intro C hlx hC hC0 hE hRm hX
  have hC : zX C cX5_save 3 RX5 (zT yX5_save cX5_save 3 (Option.none : Option FieldType)) g N := hC
  have hC0 : zX0 C cX5_save 3 RX5 (zT yX5_save cX5_save 3 (Option.none : Option FieldType)) g := hC0
  refine z_iload_n (pc := 0) hC 1 dX5_save_0 rfl rfl ?_
  refine z_if_lt (pc := 1) (tgt := 9) hC dX5_save_1 (by decide) (fun h1 => ?_) (fun h1 => ?_)
  · skip
    have g1 := Int32.not_le.mpr h1
    refine hE.same hC.2.2.2.2.2.2 (fun C1 e1 hE1 => ?_)
    subst e1
    exact z_throw (pc := 9) hC hE1 hX hRm (by show C.2.1.stackTraces = false; rw [hlx]; exact hst) 2 8 (by decide) rfl (by decide +kernel) zm_3_65 zm_1_12 zat_2 znb_2 zgw_2 dX5_save_9 dX5_save_12 dX5_save_13 dX5_save_15 dX5_save_18 ⟨Nat.le_of_ble_eq_true rfl, Nat.le_of_ble_eq_true rfl, Nat.le_of_ble_eq_true rfl, Nat.le_of_ble_eq_true rfl⟩ ⟨by decide, by decide⟩ ⟨⟨rfl, fun q => absurd h1 (Int32.not_lt.mpr q.1)⟩, hc, zKp.rf⟩
  · skip
    have g1 := Int32.not_lt.mp h1
    refine z_iload_n (pc := 4) hC 1 dX5_save_4 rfl rfl ?_
    refine z_iconst (pc := 5) (v := 2) hC dX5_save_5 rfl ?_
    refine z_icmp_lt (pc := 6) (tgt := 19) hC dX5_save_6 (by decide) (fun h6 => ?_) (fun h6 => ?_)
    · skip
      have g6 := Int32.not_le.mpr h6
      obtain ⟨t, ht, rfl⟩ := zi_nI (n := 2) (by decide) g1 h6
      refine z_aload_n (pc := 19) hC 0 dX5_save_19 rfl rfl z_isr_r ?_
      refine z_gF (pc := 20) hC 5 2 (t := 85) rfl (z_lt hC (by decide)) rfl inX5 (by decide) rfl zm_1_215 rfl dX5_save_20 ?_
      refine z_iload_n (pc := 23) hC 1 dX5_save_23 rfl rfl ?_
      refine z_slN (pc := 24) hC t (z_lt hC (by decide)) rfl ht dX5_save_24 ?_
      refine z_astore_n (pc := 25) (lv' := [(2, va_rf (Option.map g.1 (P 85 t))), (0, .ref (g.1 80)), (1, .int (nI t))]) hC dX5_save_25 rfl (by decide) (z_isr_o _) rfl ?_
      refine z_aload_n (pc := 26) hC 0 dX5_save_26 rfl rfl (z_isr_o _) ?_
      refine z_ifnonnull (pc := 27) (tgt := 45) hC dX5_save_27 (by decide) (fun a27 h27 => ?_) (fun h27 => ?_)
      · skip
        rw [h27]
        show zJ C g N 3 0 0 I P J 45 [(2, .ref (g.1 a27)), (0, .ref (g.1 80)), (1, .int (nI t))] []
        refine hE.same hC.2.2.2.2.2.2 (fun C1 e1 hE1 => ?_)
        have hC1 : zX C1 cX5_save 3 RX5 (zT yX5_save cX5_save 3 (Option.none : Option FieldType)) g N := by rw [e1]; exact hC
        have hRm1 : C1.2.2.2.1 = ({ frames := 6, cells := 44, slots := 926, locals := 143 } : Room) := by rw [e1]; exact hRm
        exact zSv_45a hC1 hE1 hRm1 hc (nI t) a27 (hsl t a27 ht h27) (fun I2 hz => zSv_a hc ht (hsl t a27 ht h27) h27 hz)
      · skip
        rw [h27]
        show zJ C g N 3 0 0 I P J 30 [(2, .null), (0, .ref (g.1 80)), (1, .int (nI t))] []
        have hG := hC.2.2.2.2.2.2
        refine zJ_I hG ?_
        refine y_new (pc := 30) (fs := [.null, .null, .null, .int 0, .int 0, .int 0]) hC0 3 rfl inX3 tyX3_ok zm_1_211 zm_4_11 zm_1_14 (by intro j hj; rcases (by omega : j = 0 ∨ j = 1 ∨ j = 2 ∨ j = 3 ∨ j = 4 ∨ j = 5) with rfl | rfl | rfl | rfl | rfl | rfl <;> rfl) hRm (Nat.le_of_ble_eq_true rfl) (Nat.le_of_ble_eq_true rfl) dX5_save_30 (fun q30 => ?_)
        show zI C g 3 1 6 ((q30, .inr (3, [.null, .null, .null, .int 0, .int 0, .int 0])) :: z_wl g N I P J) 33 [(2, .null), (0, .ref (g.1 80)), (1, .int (nI t))] [.ref q30]
        refine y_dup (pc := 33) hC0 dX5_save_33 rfl ?_
        refine y_callIN (pc := 34) (st := [.ref q30]) hC0 [] (kX3_init C.2.1 g (z_wl g N I P J) q30) zjX3_init (hC0.2.2.2.2.2.1.2.2.2.2.2.2.2.2.2.2.2) ⟨rfl, rfl⟩ rfl rfl hRm ⟨Nat.le_of_ble_eq_true rfl, Nat.le_of_ble_eq_true rfl⟩ (Nat.le_of_ble_eq_true rfl) ⟨Nat.le_of_ble_eq_true rfl, Nat.le_of_ble_eq_true rfl⟩ dX5_save_34 ?_
        intro v Y hR
        obtain ⟨hv, xa, ya, za, r, hY⟩ := hR
        subst hv
        subst hY
        show zI C g 3 44 926 (zYg g N I P J q30 xa ya za r) 37 [(2, .null), (0, .ref (g.1 80)), (1, .int (nI t))] [.ref q30]
        refine y_astore_n (pc := 37) (lv' := [(2, .ref q30), (0, .ref (g.1 80)), (1, .int (nI t))]) hC0 dX5_save_37 rfl (by decide) z_isr_r rfl ?_
        have hN := hG.1
        have hs : zsn N (N + 44) := ⟨hNf, Nat.le_refl _⟩
        refine zI_J hG hs (fun f hf hfN hGf => ?_)
        rw [← hfN, ← hf 80 (by omega)]
        refine hE.to hGf (p1 := zSvP σ g N I P J (nI t) f (N + 44)) (fun _ _ _ _ q => q) (fun C1 e1 hE1 => ?_)
        have hC1 : zX C1 cX5_save 3 RX5 (zT yX5_save cX5_save 3 (Option.none : Option FieldType)) (f, g.2) (N + 44) := by rw [e1]; exact ⟨hC.1, hC.2.1, hC.2.2.1, hC.2.2.2.1, hC.2.2.2.2.1, hC.2.2.2.2.2.1, hGf⟩
        have hRm1 : C1.2.2.2.1 = ({ frames := 6, cells := 44, slots := 926, locals := 143 } : Room) := by rw [e1]; exact hRm
        exact zSv_38 (g := (f, g.2)) hC1 hE1 hRm1 (zCl_I (fun q j hq => if_neg (by omega)) (zCl_sP hN hc)) t ht N hs (fun I2 hz => zSv_b hN hf (zCl_u (zCl_I (fun q j hq => if_neg (by omega)) (zCl_sP hN hc))) ht hs h27 hz)
    · skip
      have g6 := Int32.not_lt.mp h6
      refine hE.same hC.2.2.2.2.2.2 (fun C1 e1 hE1 => ?_)
      subst e1
      exact z_throw (pc := 9) hC hE1 hX hRm (by show C.2.1.stackTraces = false; rw [hlx]; exact hst) 2 8 (by decide) rfl (by decide +kernel) zm_3_65 zm_1_12 zat_2 znb_2 zgw_2 dX5_save_9 dX5_save_12 dX5_save_13 dX5_save_15 dX5_save_18 ⟨Nat.le_of_ble_eq_true rfl, Nat.le_of_ble_eq_true rfl, Nat.le_of_ble_eq_true rfl, Nat.le_of_ble_eq_true rfl⟩ ⟨by decide, by decide⟩ ⟨⟨rfl, fun q => h6 q.2⟩, hc, zKp.rf⟩
end ZSV
