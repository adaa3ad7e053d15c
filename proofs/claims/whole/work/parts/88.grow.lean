section ZGR
/-! THE WORLD GROWS: a new snapshot has the ids N .. N + 43 -/
/-- the addresses afterwards; what was no cell's id moves up -/
def zgw (g : zG) (N q x y z : Nat) (r : Nat → Nat) : Nat → Nat := fun i => if i < N then g.1 i else if N + 44 ≤ i then g.1 (i - 44) else if i = N then q else if i = N + 1 then x else if i = N + 2 then y else if i = N + 3 then z else r (i - (N + 4))
def zshN (N a : Nat) : Nat := if a < N then a else a + 44
def zshP (N : Nat) (P : Nat → Nat → Option Nat) : Nat → Nat → Option Nat := fun q j => (P q j).map (zshN N)
def zsh0 (N : Nat) (I : Nat → Nat → Int32) : Nat → Nat → Int32 := fun q j => if N ≤ q then 0 else I q j
theorem zgw_sh {g : zG} {N q x y z : Nat} {r : Nat → Nat} (a : Nat) : zgw g N q x y z r (zshN N a) = g.1 a := by
  unfold zgw zshN
  by_cases h : a < N
  · rw [if_pos h, if_pos h]
  · rw [if_neg h, if_neg (by omega), if_pos (by omega), Nat.add_sub_cancel]
theorem zgw_P {g : zG} {N q x y z : Nat} {r : Nat → Nat} (P : Nat → Nat → Option Nat) (i j : Nat) : (zshP N P i j).map (zgw g N q x y z r) = (P i j).map g.1 := by
  unfold zshP
  cases P i j with
  | none => rfl
  | some a => exact congrArg some (zgw_sh a)
theorem zgw_o {g : zG} {N q x y z : Nat} {r : Nat → Nat} {i : Nat} (h : i < N) : zgw g N q x y z r i = g.1 i := if_pos h
theorem zgw_n {g : zG} {N q x y z : Nat} {r : Nat → Nat} : zgw g N q x y z r N = q := by
  unfold zgw
  rw [if_neg (by omega), if_neg (by omega), if_pos rfl]
theorem zgw_n1 {g : zG} {N q x y z : Nat} {r : Nat → Nat} : zgw g N q x y z r (N + 1) = x := by
  unfold zgw
  rw [if_neg (by omega), if_neg (by omega), if_neg (by omega), if_pos rfl]
theorem zgw_n2 {g : zG} {N q x y z : Nat} {r : Nat → Nat} : zgw g N q x y z r (N + 2) = y := by
  unfold zgw
  rw [if_neg (by omega), if_neg (by omega), if_neg (by omega), if_neg (by omega), if_pos rfl]
theorem zgw_n3 {g : zG} {N q x y z : Nat} {r : Nat → Nat} : zgw g N q x y z r (N + 3) = z := by
  unfold zgw
  rw [if_neg (by omega), if_neg (by omega), if_neg (by omega), if_neg (by omega), if_neg (by omega), if_pos rfl]
theorem zgw_n4 {g : zG} {N q x y z : Nat} {r : Nat → Nat} {b : Nat} (h : b < 40) : zgw g N q x y z r (N + 4 + b) = r b := by
  unfold zgw
  rw [if_neg (by omega), if_neg (by omega), if_neg (by omega), if_neg (by omega), if_neg (by omega), if_neg (by omega), Nat.add_sub_cancel_left]
/-- the cells as they lie when the snapshot is made -/
def zYg (g : zG) (N : Nat) (I : Nat → Nat → Int32) (P : Nat → Nat → Option Nat) (J : Nat → Nat → Int64) (q x y z : Nat) (r : Nat → Nat) : va_W := (z, .inl (g.2.2.1 5, 40, .inr (.inr (.inr (.inr (fun j => some (r j))))))) :: (y, .inl (g.2.2.1 0, 40, .inl (fun _ => 0))) :: (x, .inl (g.2.2.1 1, 40, .inl (fun _ => 0))) :: (q, .inr (3, [.ref x, .ref y, .ref z, .int 0, .int 0, .int 0])) :: (z_wl g N I P J ++ zrw g r)
def zps (N id : Nat) : Nat := if id < N then id + 4 else if id = N then 3 else if id = N + 1 then 2 else if id = N + 2 then 1 else if id = N + 3 then 0 else id
theorem zps_c (N i : Nat) : (i < N ∧ zps N i = i + 4) ∨ (i = N ∧ zps N i = 3) ∨ (i = N + 1 ∧ zps N i = 2) ∨ (i = N + 2 ∧ zps N i = 1) ∨ (i = N + 3 ∧ zps N i = 0) ∨ (N + 4 ≤ i ∧ zps N i = i) := by
  unfold zps
  by_cases h0 : i < N
  · rw [if_pos h0]; exact Or.inl ⟨h0, rfl⟩
  · rw [if_neg h0]
    by_cases h1 : i = N
    · rw [if_pos h1]; exact Or.inr (Or.inl ⟨h1, rfl⟩)
    · rw [if_neg h1]
      by_cases h2 : i = N + 1
      · rw [if_pos h2]; exact Or.inr (Or.inr (Or.inl ⟨h2, rfl⟩))
      · rw [if_neg h2]
        by_cases h3 : i = N + 2
        · rw [if_pos h3]; exact Or.inr (Or.inr (Or.inr (Or.inl ⟨h3, rfl⟩)))
        · rw [if_neg h3]
          by_cases h4 : i = N + 3
          · rw [if_pos h4]; exact Or.inr (Or.inr (Or.inr (Or.inr (Or.inl ⟨h4, rfl⟩))))
          · rw [if_neg h4]; exact Or.inr (Or.inr (Or.inr (Or.inr (Or.inr ⟨by omega, rfl⟩))))
theorem zps_inj {N i j : Nat} (h : zps N i = zps N j) : i = j := by
  have h1 := zps_c N i
  have h2 := zps_c N j
  omega
theorem z_cn_ob2 {g : zG} {I : Nat → Nat → Int32} {P : Nat → Nat → Option Nat} {J : Nat → Nat → Int64} {id ci n : Nat} (h : z_sh id = (false, ci, n)) : z_cn g I P J id = .inr (ci, z_ob g I P id ci) := by
  unfold z_cn
  rw [h]
  rfl
variable {g : zG} {N : Nat} {I : Nat → Nat → Int32} {P : Nat → Nat → Option Nat} {J : Nat → Nat → Int64} {q x y z : Nat} {r : Nat → Nat}
theorem zYg_old {id : Nat} (h : id < N) : (zYg g N I P J q x y z r)[zps N id]? = some (g.1 id, z_cn g I P J id) := by
  unfold zps
  rw [if_pos h]
  show (z_wl g N I P J ++ zrw g r)[id]? = _
  rw [List.getElem?_append_left (by rw [z_wl_len]; exact h)]
  exact z_wl_get h
theorem zYg_0 : (zYg g N I P J q x y z r)[zps N N]? = some (q, .inr (3, [.ref x, .ref y, .ref z, .int 0, .int 0, .int 0])) := by
  unfold zps
  rw [if_neg (by omega), if_pos rfl]
  rfl
theorem zYg_1 : (zYg g N I P J q x y z r)[zps N (N + 1)]? = some (x, .inl (g.2.2.1 1, 40, .inl (fun _ => 0))) := by
  unfold zps
  rw [if_neg (by omega), if_neg (by omega), if_pos rfl]
  rfl
theorem zYg_2 : (zYg g N I P J q x y z r)[zps N (N + 2)]? = some (y, .inl (g.2.2.1 0, 40, .inl (fun _ => 0))) := by
  unfold zps
  rw [if_neg (by omega), if_neg (by omega), if_neg (by omega), if_pos rfl]
  rfl
theorem zYg_3 : (zYg g N I P J q x y z r)[zps N (N + 3)]? = some (z, .inl (g.2.2.1 5, 40, .inr (.inr (.inr (.inr (fun j => some (r j))))))) := by
  unfold zps
  rw [if_neg (by omega), if_neg (by omega), if_neg (by omega), if_neg (by omega), if_pos rfl]
  rfl
theorem zYg_4 {b : Nat} (h : b < 40) : (zYg g N I P J q x y z r)[zps N (N + 4 + b)]? = some (r b, .inl (g.2.2.1 0, 20, .inl (fun _ => 0))) := by
  unfold zps
  rw [if_neg (by omega), if_neg (by omega), if_neg (by omega), if_neg (by omega), if_neg (by omega), show N + 4 + b = (N + b) + 4 by omega]
  show (z_wl g N I P J ++ zrw g r)[N + b]? = _
  rw [List.getElem?_append_right (by rw [z_wl_len]; omega), z_wl_len, Nat.add_sub_cancel_left]
  unfold zrw
  rw [List.getElem?_map, List.getElem?_range h]
  rfl
theorem zYg_at {id : Nat} (h : id < N + 44) : ∃ e, (zYg g N I P J q x y z r)[zps N id]? = some (zgw g N q x y z r id, e) := by
  by_cases h0 : id < N
  · exact ⟨_, by rw [zYg_old h0, zgw_o h0]⟩
  · rcases (by omega : id = N ∨ id = N + 1 ∨ id = N + 2 ∨ id = N + 3 ∨ N + 4 ≤ id) with e | e | e | e | e
    · rw [e]; exact ⟨_, by rw [zYg_0, zgw_n]⟩
    · rw [e]; exact ⟨_, by rw [zYg_1, zgw_n1]⟩
    · rw [e]; exact ⟨_, by rw [zYg_2, zgw_n2]⟩
    · rw [e]; exact ⟨_, by rw [zYg_3, zgw_n3]⟩
    · obtain ⟨b, rfl⟩ : ∃ b, id = N + 4 + b := ⟨id - (N + 4), by omega⟩
      exact ⟨_, by rw [zYg_4 (by omega), zgw_n4 (by omega)]⟩
theorem zYg_gd (hG : z_gd g N) (hD : va_D (z_A g) (zYg g N I P J q x y z r)) : z_gd (zgw g N q x y z r, g.2) (N + 44) := by
  refine ⟨by have := hG.1; omega, fun i j hi hj e => ?_, fun i hi => ?_⟩
  · obtain ⟨e1, h1⟩ := zYg_at (g := g) (I := I) (P := P) (J := J) (q := q) (x := x) (y := y) (z := z) (r := r) hi
    obtain ⟨e2, h2⟩ := zYg_at (g := g) (I := I) (P := P) (J := J) (q := q) (x := x) (y := y) (z := z) (r := r) hj
    exact zps_inj (hD.1 _ _ _ _ h1 h2 e)
  · obtain ⟨e1, h1⟩ := zYg_at (g := g) (I := I) (P := P) (J := J) (q := q) (x := x) (y := y) (z := z) (r := r) hi
    exact hD.2 _ _ h1
theorem z_sh_ob {id ci n : Nat} (h : z_sh id = (false, ci, n)) : id < 40 ∨ (id = 80 ∧ ci = 5) ∨ (id = 81 ∧ ci = 4) ∨ (id = 82 ∧ ci = 2) ∨ (id = 83 ∧ ci = 1) ∨ (id = 95 ∧ ci = 6) ∨ (111 ≤ id ∧ (id - 111) % 44 = 0 ∧ ci = 3) := by
  by_cases h1 : id < 40
  · exact Or.inl h1
  · by_cases h2 : id < 80
    · unfold z_sh at h
      rw [if_neg h1, if_pos h2] at h
      cases h
    · by_cases h3 : id < 111
      · obtain ⟨k, rfl⟩ : ∃ k, id = 80 + k := ⟨id - 80, by omega⟩
        unfold z_sh at h
        rw [if_neg h1, if_neg h2, if_pos h3, Nat.add_sub_cancel_left] at h
        have hk : k < 31 := by omega
        clear h1 h2 h3
        rcases (by omega : k = 0 ∨ k = 1 ∨ k = 2 ∨ k = 3 ∨ k = 15 ∨ (4 ≤ k ∧ k < 15) ∨ (16 ≤ k ∧ k < 31)) with e | e | e | e | e | e | e
        · subst e; cases h; exact Or.inr (Or.inl ⟨rfl, rfl⟩)
        · subst e; cases h; exact Or.inr (Or.inr (Or.inl ⟨rfl, rfl⟩))
        · subst e; cases h; exact Or.inr (Or.inr (Or.inr (Or.inl ⟨rfl, rfl⟩)))
        · subst e; cases h; exact Or.inr (Or.inr (Or.inr (Or.inr (Or.inl ⟨rfl, rfl⟩))))
        · subst e; cases h; exact Or.inr (Or.inr (Or.inr (Or.inr (Or.inr (Or.inl ⟨rfl, rfl⟩)))))
        · exfalso
          have t : ∀ k, k < 15 → 4 ≤ k → (z_tab.getD k (false, 0, 0)).1 = true := by decide
          have := t k e.2 e.1
          rw [h] at this
          cases this
        · exfalso
          have t : ∀ k, k < 31 → 16 ≤ k → (z_tab.getD k (false, 0, 0)).1 = true := by decide
          have := t k e.2 e.1
          rw [h] at this
          cases this
      · unfold z_sh at h
        rw [if_neg h1, if_neg h2, if_neg h3] at h
        unfold z_stab at h
        by_cases e0 : (id - 111) % 44 = 0
        · rw [if_pos e0] at h
          cases h
          exact Or.inr (Or.inr (Or.inr (Or.inr (Or.inr (Or.inr ⟨by omega, e0, rfl⟩)))))
        · rw [if_neg e0] at h
          split at h
          · cases h
          · split at h
            · cases h
            · split at h <;> cases h
/-- what a fixed reference of an old cell names is old -/
theorem z_fx_lt {id ci n k : Nat} (hs : zsn N (N + 44)) (hid : id < N) (h : z_sh id = (false, ci, n)) (hk : (z_ft ci)[k]? = some 2) : z_fx id k < N := by
  obtain ⟨c, hc⟩ := hs.1
  rcases z_sh_ob h with e | ⟨e, rfl⟩ | ⟨e, rfl⟩ | ⟨e, rfl⟩ | ⟨e, rfl⟩ | ⟨e, rfl⟩ | ⟨e1, e2, rfl⟩
  · unfold z_fx
    rw [if_pos e]
    omega
  · subst e
    have hl : k < 3 := (List.getElem?_eq_some_iff.mp hk).1
    have t : ∀ k, k < 3 → z_fx 80 k < 111 := by decide
    have := t k hl
    omega
  · subst e
    have hl : k < 5 := (List.getElem?_eq_some_iff.mp hk).1
    have t : ∀ k, k < 5 → z_fx 81 k < 111 := by decide
    have := t k hl
    omega
  · subst e
    have hl : k < 3 := (List.getElem?_eq_some_iff.mp hk).1
    have t : ∀ k, k < 3 → z_fx 82 k < 111 := by decide
    have := t k hl
    omega
  · subst e
    have hl : k < 11 := (List.getElem?_eq_some_iff.mp hk).1
    have t : ∀ k, k < 11 → z_fx 83 k < 111 := by decide
    have := t k hl
    omega
  · subst e
    have hl : k < 16 := (List.getElem?_eq_some_iff.mp hk).1
    have t : ∀ k, k < 16 → z_fx 95 k < 111 := by decide
    have := t k hl
    omega
  · have hl : k < 3 := by
      have t : ∀ k, k < 6 → 3 ≤ k → (z_ft 3)[k]? ≠ some 2 := by decide
      have h6 : k < 6 := (List.getElem?_eq_some_iff.mp hk).1
      rcases Nat.lt_or_ge k 3 with q | q
      · exact q
      · exact absurd hk (t k h6 q)
    unfold z_fx
    rw [if_neg (by omega), if_neg (by omega), if_neg (by omega), if_neg (by omega), if_neg (by omega), if_neg (by omega)]
    omega
theorem z_sh_t5 {id t n : Nat} (h : z_sh id = (true, t, n)) (ht : 3 ≤ t) : (t = 3 ∧ n = 40) ∨ t = 4 ∨ (t = 5 ∧ n = 40 ∧ 111 ≤ id ∧ (id - 111) % 44 = 3) := by
  unfold z_sh at h
  split at h
  · cases h
  · split at h
    · cases h
      omega
    · split at h
      · rename_i h1 h2 h3
        obtain ⟨k, rfl⟩ : ∃ k, id = 80 + k := ⟨id - 80, by omega⟩
        rw [Nat.add_sub_cancel_left] at h
        have t0 : ∀ k, k < 31 → 3 ≤ (z_tab.getD k (false, 0, 0)).2.1 → (z_tab.getD k (false, 0, 0)).1 = true → ((z_tab.getD k (false, 0, 0)).2.1 = 3 ∧ (z_tab.getD k (false, 0, 0)).2.2 = 40) ∨ (z_tab.getD k (false, 0, 0)).2.1 = 4 := by decide
        have := t0 k (by omega) (by rw [h]; exact ht) (by rw [h])
        rw [h] at this
        rcases this with q | q
        · exact Or.inl q
        · exact Or.inr (Or.inl q)
      · unfold z_stab at h
        split at h
        · cases h
        · split at h
          · cases h
            omega
          · split at h
            · cases h
              omega
            · split at h
              · rename_i h3 h4 h5 h6 h7
                cases h
                exact Or.inr (Or.inr ⟨rfl, rfl, by omega, h7⟩)
              · cases h
                omega
theorem zgw_at (hG : z_gd g N) (hs : zsn N (N + 44)) {id : Nat} (hid : id < N) {H : Heap} (h : va_at g.2.1 vwCl (g.1 id, z_cn g I P J id) H) : va_at g.2.1 vwCl (zgw g N q x y z r id, z_cn (zgw g N q x y z r, g.2) (zsh0 N I) (zshP N P) J id) H := by
  have h111 := hG.1
  rw [zgw_o hid]
  have eI : zsh0 N I id = I id := funext fun j => if_neg (by omega)
  rcases hz : z_sh id with ⟨b, t, n⟩
  cases b with
  | false =>
    rw [z_cn_ob2 hz] at h ⊢
    have e : z_ob (zgw g N q x y z r, g.2) (zsh0 N I) (zshP N P) id t = z_ob g I P id t := by
      apply List.ext_getElem?
      intro k
      cases hk : (z_ft t)[k]? with
      | none =>
        unfold z_ob
        rw [List.getElem?_mapIdx, List.getElem?_mapIdx, hk]
        rfl
      | some t2 =>
        rw [z_ob_get hk, z_ob_get hk]
        unfold z_val
        by_cases h0 : t2 = 0
        · rw [if_pos h0, if_pos h0, eI]
        · rw [if_neg h0, if_neg h0]
          by_cases h1 : t2 = 1
          · rw [if_pos h1, if_pos h1, zgw_P]
          · rw [if_neg h1, if_neg h1]
            have h2 : t2 = 2 := by
              have hm := List.mem_of_getElem? hk
              have t0 : ∀ t, ∀ a ∈ z_ft t, a ≤ 2 := fun t a ha => by
                unfold z_ft at ha
                split at ha <;> simp at ha <;> omega
              have := t0 t t2 hm
              omega
            show some (Value.ref (zgw g N q x y z r (z_fx id k))) = some (Value.ref (g.1 (z_fx id k)))
            rw [zgw_o (z_fx_lt hs hid hz (by rw [hk, h2]))]
    rw [e]
    exact h
  | true =>
    rw [z_cn_ar hz] at h ⊢
    unfold z_ar at h ⊢
    by_cases h1 : t ≤ 1
    · rw [if_pos h1] at h ⊢
      rw [eI]
      exact h
    · rw [if_neg h1] at h ⊢
      by_cases h2 : t = 2
      · rw [if_pos h2] at h ⊢
        exact h
      · rw [if_neg h2] at h ⊢
        have h' : H[g.1 id]? = some (arrV (g.2.2.1 t) n (fun j => va_rf (z_el g P id t j))) := h
        show H[g.1 id]? = some (arrV (g.2.2.1 t) n (fun j => va_rf (z_el (zgw g N q x y z r, g.2) (zshP N P) id t j)))
        rw [h']
        refine congrArg some (arrV_cg fun j hj => congrArg va_rf ?_)
        rcases z_sh_t5 hz (by omega) with ⟨e3, en⟩ | e4 | ⟨e5, en, e6, e7⟩
        · subst e3
          show some (g.1 j) = some (zgw g N q x y z r j)
          rw [zgw_o (by omega)]
        · subst e4
          show (P id j).map g.1 = (zshP N P id j).map (zgw g N q x y z r)
          rw [zgw_P]
        · obtain ⟨c, hc⟩ := hs.1
          subst e5
          show some (g.1 (id + 1 + j)) = some (zgw g N q x y z r (id + 1 + j))
          rw [zgw_o (by omega)]
theorem zYg_P (hG : z_gd g N) (hs : zsn N (N + 44)) {H : Heap} (hP : va_P g.2.1 vwCl (zYg g N I P J q x y z r) H) : va_P g.2.1 vwCl (z_wl (zgw g N q x y z r, g.2) (N + 44) (zsh0 N I) (zshP N P) J) H := by
  have e0 : ∀ a j, N ≤ a → zsh0 N I a j = 0 := fun a j ha => if_pos ha
  intro k p hp
  have hk : k < N + 44 := by
    have := (List.getElem?_eq_some_iff.mp hp).1
    rw [z_wl_len] at this
    exact this
  rw [z_wl_get hk] at hp
  cases hp
  by_cases h0 : k < N
  · exact zgw_at hG hs h0 (hP _ _ (zYg_old h0))
  · rcases (by omega : k = N ∨ k = N + 1 ∨ k = N + 2 ∨ k = N + 3 ∨ N + 4 ≤ k) with e | e | e | e | e
    · subst e
      have h := hP _ _ zYg_0
      show va_at g.2.1 vwCl (zgw g k q x y z r k, _) H
      rw [zgw_n, z_cn_ob hs.sh0]
      have eo : z_ob (zgw g k q x y z r, g.2) (zsh0 k I) (zshP k P) k 3 = [.ref x, .ref y, .ref z, .int 0, .int 0, .int 0] := by
        show [Value.ref (zgw g k q x y z r (z_fx k 0)), .ref (zgw g k q x y z r (z_fx k 1)), .ref (zgw g k q x y z r (z_fx k 2)), .int (zsh0 k I k 3), .int (zsh0 k I k 4), .int (zsh0 k I k 5)] = _
        rw [hs.fx 0, hs.fx 1, hs.fx 2, e0 _ _ (Nat.le_refl _), e0 _ _ (Nat.le_refl _), e0 _ _ (Nat.le_refl _), show k + 1 + 0 = k + 1 from rfl, show k + 1 + 1 = k + 2 from rfl, show k + 1 + 2 = k + 3 from rfl, zgw_n1, zgw_n2, zgw_n3]
      rw [eo]
      exact h
    · subst e
      have h := hP _ _ zYg_1
      show va_at g.2.1 vwCl (zgw g N q x y z r (N + 1), _) H
      rw [zgw_n1, z_cn_ar hs.sh1]
      show va_at g.2.1 vwCl (x, .inl (g.2.2.1 1, 40, .inl (zsh0 N I (N + 1)))) H
      rw [show zsh0 N I (N + 1) = fun _ => 0 from funext fun j => e0 _ j (by omega)]
      exact h
    · subst e
      have h := hP _ _ zYg_2
      show va_at g.2.1 vwCl (zgw g N q x y z r (N + 2), _) H
      rw [zgw_n2, z_cn_ar hs.sh2]
      show va_at g.2.1 vwCl (y, .inl (g.2.2.1 0, 40, .inl (zsh0 N I (N + 2)))) H
      rw [show zsh0 N I (N + 2) = fun _ => 0 from funext fun j => e0 _ j (by omega)]
      exact h
    · subst e
      have h := hP _ _ zYg_3
      show va_at g.2.1 vwCl (zgw g N q x y z r (N + 3), _) H
      rw [zgw_n3, z_cn_ar hs.sh3]
      have h' : H[z]? = some (arrV (g.2.2.1 5) 40 (fun j => va_rf (some (r j)))) := h
      show H[z]? = some (arrV (g.2.2.1 5) 40 (fun j => va_rf (some (zgw g N q x y z r (N + 3 + 1 + j)))))
      rw [h']
      refine congrArg some (arrV_cg fun j hj => ?_)
      rw [show N + 3 + 1 + j = N + 4 + j by omega, zgw_n4 hj]
    · obtain ⟨b, rfl⟩ : ∃ b, k = N + 4 + b := ⟨k - (N + 4), by omega⟩
      have hb : b < 40 := by omega
      have h := hP _ _ (zYg_4 hb)
      show va_at g.2.1 vwCl (zgw g N q x y z r (N + 4 + b), _) H
      rw [zgw_n4 hb, z_cn_ar (hs.sh4 hb)]
      show va_at g.2.1 vwCl (r b, .inl (g.2.2.1 0, 20, .inl (zsh0 N I (N + 4 + b)))) H
      rw [show zsh0 N I (N + 4 + b) = fun _ => 0 from funext fun j => e0 _ j (by omega)]
      exact h
end ZGR
