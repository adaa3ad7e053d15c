section ZST
theorem arrV_cg {cA : ClassId} {n : Nat} {f h : Nat → Value} (e : ∀ j, j < n → f j = h j) : arrV cA n f = arrV cA n h := by
  unfold arrV
  have e2 : (fun j : Fin n => f j.val) = fun j => h j.val := funext fun j => e j.val j.isLt
  rw [e2]
/-! THE WORLD AT THE LOOP'S START -/
/-- the addresses by number -/
def zsad (aa ss : Nat → Nat) (l : List Nat) : Nat → Nat := fun id => if id < 40 then aa id else if id < 80 then ss (id - 40) else l.getD (id - 80) 0
def zI0 : Nat → Nat → Int32 := fun q => if q < 40 then (fun j => if j = 0 then nI q else if j = 2 then (if q = 0 then 1 else 0) else 0) else if q = 40 then (fun j => if j < 20 then z_st 2 j else 0) else if q = 81 then (fun j => if j = 2 then 1 else if j = 3 then 800 else if j = 4 then 600 else 0) else if q = 82 then (fun j => if j = 2 then 1 else 0) else fun _ => 0
def zP0 : Nat → Nat → Option Nat := fun _ _ => none
def zJ0 : Nat → Nat → Int64 := fun _ _ => 0
/-- the cells as they lie -/
def zYs (g : zG) (aa ss : Nat → Nat) (F : Nat → Option Nat) (a5 q5 q16 qf bs q32 qf0 qf1 qf2 qf3 qf4 qf5 qf6 qf7 qf8 r0 r1 r2 r3 r4 : Nat) : va_W := (r4, .inl (g.2.2.1 0, 6, .inl (fun _ => 0))) :: (r3, .inl (g.2.2.1 0, 6, .inl (fun _ => 0))) :: (r2, .inl (g.2.2.1 0, 6, .inl (fun _ => 0))) :: (r1, .inl (g.2.2.1 0, 6, .inl (fun _ => 0))) :: (r0, .inl (g.2.2.1 0, 6, .inl (fun _ => 0))) :: (q32, .inl (g.2.2.1 4, 2, .inr (.inr (.inr (.inr (fun _ => none)))))) :: (qf8, .inl (g.2.2.1 1, 40, .inl (fun _ => 0))) :: (qf7, .inl (g.2.2.1 0, 40, .inl (fun _ => 0))) :: (qf6, .inl (g.2.2.1 0, 40, .inl (fun _ => 0))) :: (qf5, .inl (g.2.2.1 0, 40, .inl (fun _ => 0))) :: (qf4, .inl (g.2.2.1 0, 40, .inl (fun _ => 0))) :: (qf3, .inl (g.2.2.1 0, 40, .inl (fun _ => 0))) :: (qf2, .inl (g.2.2.1 0, 40, .inl (fun _ => 0))) :: (qf1, .inl (g.2.2.1 0, 40, .inl (fun _ => 0))) :: (qf0, .inl (g.2.2.1 0, 40, .inl (fun _ => 0))) :: (qf, .inr (1, [.ref qf0, .ref qf1, .ref qf2, .ref qf3, .ref qf4, .ref qf5, .ref qf6, .ref qf7, .ref qf8, .int 0, .int 0])) :: (q16, .inr (2, [.ref q5, .ref qf, .int 1])) :: (ss 0, .inl (g.2.2.1 0, 20, .inl (fun j => if j < 20 then z_st 2 j else 0))) :: (aa 0, .inr (0, [.int 0, .ref (ss 0), .int 1, .null, .int 0, .int 0, .null, .null, .int 0, .null, .int 0, .int 0, .int 0, .int 0, .int 0, .int 0, .int 0, .int 0])) :: (bs, .inl (g.2.2.1 3, 40, .inr (.inr (.inr (.inr F))))) :: (q5, .inr (4, [.ref bs, .ref (aa 0), .int 1, .int 800, .int 600])) :: (a5, .inr (5, [.ref q5, .ref q16, .ref q32])) :: zbxL g aa ss 39
def zp0 (id : Nat) : Nat := if id = 0 then 18 else if id < 40 then 23 + 2 * (39 - id) else if id = 40 then 17 else if id < 80 then 22 + 2 * (79 - id) else ([21, 20, 16, 15, 19, 5, 14, 13, 12, 11, 10, 9, 8, 7, 6, 4, 3, 2, 1, 0] : List Nat).getD (id - 80) 0
theorem zp0_inj : ∀ i, i < 100 → ∀ j, j < 100 → zp0 i = zp0 j → i = j := by decide +kernel
/-- a row of fields, one after the other -/
def zmi {α : Type} (f : Nat → Nat → α) : Nat → List Nat → List α
  | _, [] => []
  | n, t :: ts => f n t :: zmi f (n + 1) ts
theorem zmi_eq {α : Type} (f : Nat → Nat → α) : ∀ (l : List Nat) (n : Nat), l.mapIdx (fun i t => f (i + n) t) = zmi f n l
  | [], _ => rfl
  | t :: ts, n => by
    rw [List.mapIdx_cons]
    show f (0 + n) t :: _ = f n t :: zmi f (n + 1) ts
    rw [Nat.zero_add, ← zmi_eq f ts (n + 1)]
    congr 2
    funext i t2
    rw [show i + 1 + n = i + (n + 1) by omega]
theorem z_ob_mi {g : zG} {I : Nat → Nat → Int32} {P : Nat → Nat → Option Nat} {id ci : Nat} : z_ob g I P id ci = zmi (fun k t => z_val g I P id k t) 0 (z_ft ci) := zmi_eq (fun k t => z_val g I P id k t) (z_ft ci) 0
theorem zbxL_s {g : zG} {aa ss : Nat → Nat} : ∀ (n i : Nat), 1 ≤ i → i ≤ n → (zbxL g aa ss n)[2 * (n - i)]? = some (ss i, .inl (g.2.2.1 0, 20, .inl (fun _ => 0))) ∧ (zbxL g aa ss n)[2 * (n - i) + 1]? = some (aa i, .inr (0, [.int (nI i), .ref (ss i), .int 0, .null, .int 0, .int 0, .null, .null, .int 0, .null, .int 0, .int 0, .int 0, .int 0, .int 0, .int 0, .int 0, .int 0])) := by
  intro n
  induction n with
  | zero =>
    intro i h1 h2
    omega
  | succ n ih =>
    intro i h1 h2
    by_cases e : i = n + 1
    · subst e
      rw [Nat.sub_self]
      exact ⟨rfl, rfl⟩
    · obtain ⟨a, b⟩ := ih i h1 (by omega)
      rw [show 2 * (n + 1 - i) = 2 * (n - i) + 2 by omega]
      exact ⟨a, b⟩
section
variable {g : zG} {aa ss : Nat → Nat} {F : Nat → Option Nat} {a5 q5 q16 qf bs q32 qf0 qf1 qf2 qf3 qf4 qf5 qf6 qf7 qf8 r0 r1 r2 r3 r4 : Nat}
theorem zYs_0 : (zYs g aa ss F a5 q5 q16 qf bs q32 qf0 qf1 qf2 qf3 qf4 qf5 qf6 qf7 qf8 r0 r1 r2 r3 r4)[zp0 0]? = some (aa 0, .inr (0, [.int 0, .ref (ss 0), .int 1, .null, .int 0, .int 0, .null, .null, .int 0, .null, .int 0, .int 0, .int 0, .int 0, .int 0, .int 0, .int 0, .int 0])) := rfl
theorem zYs_40 : (zYs g aa ss F a5 q5 q16 qf bs q32 qf0 qf1 qf2 qf3 qf4 qf5 qf6 qf7 qf8 r0 r1 r2 r3 r4)[zp0 40]? = some (ss 0, .inl (g.2.2.1 0, 20, .inl (fun j => if j < 20 then z_st 2 j else 0))) := rfl
theorem zYs_80 : (zYs g aa ss F a5 q5 q16 qf bs q32 qf0 qf1 qf2 qf3 qf4 qf5 qf6 qf7 qf8 r0 r1 r2 r3 r4)[zp0 80]? = some (a5, .inr (5, [.ref q5, .ref q16, .ref q32])) := rfl
theorem zYs_81 : (zYs g aa ss F a5 q5 q16 qf bs q32 qf0 qf1 qf2 qf3 qf4 qf5 qf6 qf7 qf8 r0 r1 r2 r3 r4)[zp0 81]? = some (q5, .inr (4, [.ref bs, .ref (aa 0), .int 1, .int 800, .int 600])) := rfl
theorem zYs_82 : (zYs g aa ss F a5 q5 q16 qf bs q32 qf0 qf1 qf2 qf3 qf4 qf5 qf6 qf7 qf8 r0 r1 r2 r3 r4)[zp0 82]? = some (q16, .inr (2, [.ref q5, .ref qf, .int 1])) := rfl
theorem zYs_83 : (zYs g aa ss F a5 q5 q16 qf bs q32 qf0 qf1 qf2 qf3 qf4 qf5 qf6 qf7 qf8 r0 r1 r2 r3 r4)[zp0 83]? = some (qf, .inr (1, [.ref qf0, .ref qf1, .ref qf2, .ref qf3, .ref qf4, .ref qf5, .ref qf6, .ref qf7, .ref qf8, .int 0, .int 0])) := rfl
theorem zYs_84 : (zYs g aa ss F a5 q5 q16 qf bs q32 qf0 qf1 qf2 qf3 qf4 qf5 qf6 qf7 qf8 r0 r1 r2 r3 r4)[zp0 84]? = some (bs, .inl (g.2.2.1 3, 40, .inr (.inr (.inr (.inr F))))) := rfl
theorem zYs_85 : (zYs g aa ss F a5 q5 q16 qf bs q32 qf0 qf1 qf2 qf3 qf4 qf5 qf6 qf7 qf8 r0 r1 r2 r3 r4)[zp0 85]? = some (q32, .inl (g.2.2.1 4, 2, .inr (.inr (.inr (.inr (fun _ => none)))))) := rfl
theorem zYs_86 : (zYs g aa ss F a5 q5 q16 qf bs q32 qf0 qf1 qf2 qf3 qf4 qf5 qf6 qf7 qf8 r0 r1 r2 r3 r4)[zp0 86]? = some (qf0, .inl (g.2.2.1 0, 40, .inl (fun _ => 0))) := rfl
theorem zYs_87 : (zYs g aa ss F a5 q5 q16 qf bs q32 qf0 qf1 qf2 qf3 qf4 qf5 qf6 qf7 qf8 r0 r1 r2 r3 r4)[zp0 87]? = some (qf1, .inl (g.2.2.1 0, 40, .inl (fun _ => 0))) := rfl
theorem zYs_88 : (zYs g aa ss F a5 q5 q16 qf bs q32 qf0 qf1 qf2 qf3 qf4 qf5 qf6 qf7 qf8 r0 r1 r2 r3 r4)[zp0 88]? = some (qf2, .inl (g.2.2.1 0, 40, .inl (fun _ => 0))) := rfl
theorem zYs_89 : (zYs g aa ss F a5 q5 q16 qf bs q32 qf0 qf1 qf2 qf3 qf4 qf5 qf6 qf7 qf8 r0 r1 r2 r3 r4)[zp0 89]? = some (qf3, .inl (g.2.2.1 0, 40, .inl (fun _ => 0))) := rfl
theorem zYs_90 : (zYs g aa ss F a5 q5 q16 qf bs q32 qf0 qf1 qf2 qf3 qf4 qf5 qf6 qf7 qf8 r0 r1 r2 r3 r4)[zp0 90]? = some (qf4, .inl (g.2.2.1 0, 40, .inl (fun _ => 0))) := rfl
theorem zYs_91 : (zYs g aa ss F a5 q5 q16 qf bs q32 qf0 qf1 qf2 qf3 qf4 qf5 qf6 qf7 qf8 r0 r1 r2 r3 r4)[zp0 91]? = some (qf5, .inl (g.2.2.1 0, 40, .inl (fun _ => 0))) := rfl
theorem zYs_92 : (zYs g aa ss F a5 q5 q16 qf bs q32 qf0 qf1 qf2 qf3 qf4 qf5 qf6 qf7 qf8 r0 r1 r2 r3 r4)[zp0 92]? = some (qf6, .inl (g.2.2.1 0, 40, .inl (fun _ => 0))) := rfl
theorem zYs_93 : (zYs g aa ss F a5 q5 q16 qf bs q32 qf0 qf1 qf2 qf3 qf4 qf5 qf6 qf7 qf8 r0 r1 r2 r3 r4)[zp0 93]? = some (qf7, .inl (g.2.2.1 0, 40, .inl (fun _ => 0))) := rfl
theorem zYs_94 : (zYs g aa ss F a5 q5 q16 qf bs q32 qf0 qf1 qf2 qf3 qf4 qf5 qf6 qf7 qf8 r0 r1 r2 r3 r4)[zp0 94]? = some (qf8, .inl (g.2.2.1 1, 40, .inl (fun _ => 0))) := rfl
theorem zYs_95 : (zYs g aa ss F a5 q5 q16 qf bs q32 qf0 qf1 qf2 qf3 qf4 qf5 qf6 qf7 qf8 r0 r1 r2 r3 r4)[zp0 95]? = some (r0, .inl (g.2.2.1 0, 6, .inl (fun _ => 0))) := rfl
theorem zYs_96 : (zYs g aa ss F a5 q5 q16 qf bs q32 qf0 qf1 qf2 qf3 qf4 qf5 qf6 qf7 qf8 r0 r1 r2 r3 r4)[zp0 96]? = some (r1, .inl (g.2.2.1 0, 6, .inl (fun _ => 0))) := rfl
theorem zYs_97 : (zYs g aa ss F a5 q5 q16 qf bs q32 qf0 qf1 qf2 qf3 qf4 qf5 qf6 qf7 qf8 r0 r1 r2 r3 r4)[zp0 97]? = some (r2, .inl (g.2.2.1 0, 6, .inl (fun _ => 0))) := rfl
theorem zYs_98 : (zYs g aa ss F a5 q5 q16 qf bs q32 qf0 qf1 qf2 qf3 qf4 qf5 qf6 qf7 qf8 r0 r1 r2 r3 r4)[zp0 98]? = some (r3, .inl (g.2.2.1 0, 6, .inl (fun _ => 0))) := rfl
theorem zYs_99 : (zYs g aa ss F a5 q5 q16 qf bs q32 qf0 qf1 qf2 qf3 qf4 qf5 qf6 qf7 qf8 r0 r1 r2 r3 r4)[zp0 99]? = some (r4, .inl (g.2.2.1 0, 6, .inl (fun _ => 0))) := rfl
theorem zYs_b {b : Nat} (h1 : 1 ≤ b) (h2 : b < 40) : (zYs g aa ss F a5 q5 q16 qf bs q32 qf0 qf1 qf2 qf3 qf4 qf5 qf6 qf7 qf8 r0 r1 r2 r3 r4)[zp0 b]? = some (aa b, .inr (0, [.int (nI b), .ref (ss b), .int 0, .null, .int 0, .int 0, .null, .null, .int 0, .null, .int 0, .int 0, .int 0, .int 0, .int 0, .int 0, .int 0, .int 0])) := by
  unfold zp0
  rw [if_neg (by omega), if_pos h2, show 23 + 2 * (39 - b) = (2 * (39 - b) + 1) + 22 by omega]
  exact (zbxL_s 39 b h1 (by omega)).2
theorem zYs_s {b : Nat} (h1 : 1 ≤ b) (h2 : b < 40) : (zYs g aa ss F a5 q5 q16 qf bs q32 qf0 qf1 qf2 qf3 qf4 qf5 qf6 qf7 qf8 r0 r1 r2 r3 r4)[zp0 (40 + b)]? = some (ss b, .inl (g.2.2.1 0, 20, .inl (fun _ => 0))) := by
  unfold zp0
  rw [if_neg (by omega), if_neg (by omega), if_neg (by omega), if_pos (by omega), show 22 + 2 * (79 - (40 + b)) = 2 * (39 - b) + 22 by omega]
  exact (zbxL_s 39 b h1 (by omega)).1
theorem zid_cases {id : Nat} (h : id < 100) : id = 0 ∨ (1 ≤ id ∧ id < 40) ∨ id = 40 ∨ (∃ b, id = 40 + b ∧ 1 ≤ b ∧ b < 40) ∨ id = 80 ∨ id = 81 ∨ id = 82 ∨ id = 83 ∨ id = 84 ∨ id = 85 ∨ id = 86 ∨ id = 87 ∨ id = 88 ∨ id = 89 ∨ id = 90 ∨ id = 91 ∨ id = 92 ∨ id = 93 ∨ id = 94 ∨ id = 95 ∨ id = 96 ∨ id = 97 ∨ id = 98 ∨ id = 99 := by
  rcases Nat.lt_or_ge id 80 with q | q
  · rcases (by omega : id = 0 ∨ (1 ≤ id ∧ id < 40) ∨ id = 40 ∨ 41 ≤ id) with e | e | e | e
    · exact Or.inl e
    · exact Or.inr (Or.inl e)
    · exact Or.inr (Or.inr (Or.inl e))
    · exact Or.inr (Or.inr (Or.inr (Or.inl ⟨id - 40, by omega, by omega, by omega⟩)))
  · refine Or.inr (Or.inr (Or.inr (Or.inr ?_)))
    omega
theorem zsad_b {l : List Nat} {b : Nat} (h : b < 40) : zsad aa ss l b = aa b := if_pos h
theorem zsad_s {l : List Nat} {b : Nat} (h : b < 40) : zsad aa ss l (40 + b) = ss b := by
  unfold zsad
  rw [if_neg (by omega), if_pos (by omega), Nat.add_sub_cancel_left]
theorem zYs_at {id : Nat} (h : id < 100) : ∃ e, (zYs g aa ss F a5 q5 q16 qf bs q32 qf0 qf1 qf2 qf3 qf4 qf5 qf6 qf7 qf8 r0 r1 r2 r3 r4)[zp0 id]? = some (zsad aa ss [a5, q5, q16, qf, bs, q32, qf0, qf1, qf2, qf3, qf4, qf5, qf6, qf7, qf8, r0, r1, r2, r3, r4] id, e) := by
  rcases zid_cases h with rfl | ⟨h1, h2⟩ | rfl | ⟨b, rfl, h1, h2⟩ | rfl | rfl | rfl | rfl | rfl | rfl | rfl | rfl | rfl | rfl | rfl | rfl | rfl | rfl | rfl | rfl | rfl | rfl | rfl | rfl
  · exact ⟨_, zYs_0⟩
  · exact ⟨_, by rw [zsad_b h2]; exact zYs_b h1 h2⟩
  · exact ⟨_, zYs_40⟩
  · exact ⟨_, by rw [zsad_s h2]; exact zYs_s h1 h2⟩
  · exact ⟨_, zYs_80⟩
  · exact ⟨_, zYs_81⟩
  · exact ⟨_, zYs_82⟩
  · exact ⟨_, zYs_83⟩
  · exact ⟨_, zYs_84⟩
  · exact ⟨_, zYs_85⟩
  · exact ⟨_, zYs_86⟩
  · exact ⟨_, zYs_87⟩
  · exact ⟨_, zYs_88⟩
  · exact ⟨_, zYs_89⟩
  · exact ⟨_, zYs_90⟩
  · exact ⟨_, zYs_91⟩
  · exact ⟨_, zYs_92⟩
  · exact ⟨_, zYs_93⟩
  · exact ⟨_, zYs_94⟩
  · exact ⟨_, zYs_95⟩
  · exact ⟨_, zYs_96⟩
  · exact ⟨_, zYs_97⟩
  · exact ⟨_, zYs_98⟩
  · exact ⟨_, zYs_99⟩
theorem zYs_gd (hD : va_D (z_A g) (zYs g aa ss F a5 q5 q16 qf bs q32 qf0 qf1 qf2 qf3 qf4 qf5 qf6 qf7 qf8 r0 r1 r2 r3 r4)) : z_gd (zsad aa ss [a5, q5, q16, qf, bs, q32, qf0, qf1, qf2, qf3, qf4, qf5, qf6, qf7, qf8, r0, r1, r2, r3, r4], g.2) 100 := by
  refine ⟨Nat.le_refl _, fun i j hi hj e => ?_, fun i hi => ?_⟩
  · obtain ⟨e1, h1⟩ := zYs_at (g := g) (aa := aa) (ss := ss) (F := F) (a5 := a5) (q5 := q5) (q16 := q16) (qf := qf) (bs := bs) (q32 := q32) (qf0 := qf0) (qf1 := qf1) (qf2 := qf2) (qf3 := qf3) (qf4 := qf4) (qf5 := qf5) (qf6 := qf6) (qf7 := qf7) (qf8 := qf8) (r0 := r0) (r1 := r1) (r2 := r2) (r3 := r3) (r4 := r4) hi
    obtain ⟨e2, h2⟩ := zYs_at (g := g) (aa := aa) (ss := ss) (F := F) (a5 := a5) (q5 := q5) (q16 := q16) (qf := qf) (bs := bs) (q32 := q32) (qf0 := qf0) (qf1 := qf1) (qf2 := qf2) (qf3 := qf3) (qf4 := qf4) (qf5 := qf5) (qf6 := qf6) (qf7 := qf7) (qf8 := qf8) (r0 := r0) (r1 := r1) (r2 := r2) (r3 := r3) (r4 := r4) hj
    exact zp0_inj i hi j hj (hD.1 _ _ _ _ h1 h2 e)
  · obtain ⟨e1, h1⟩ := zYs_at (g := g) (aa := aa) (ss := ss) (F := F) (a5 := a5) (q5 := q5) (q16 := q16) (qf := qf) (bs := bs) (q32 := q32) (qf0 := qf0) (qf1 := qf1) (qf2 := qf2) (qf3 := qf3) (qf4 := qf4) (qf5 := qf5) (qf6 := qf6) (qf7 := qf7) (qf8 := qf8) (r0 := r0) (r1 := r1) (r2 := r2) (r3 := r3) (r4 := r4) hi
    exact hD.2 _ _ h1
theorem zYs_w0 {H : Heap} (hP : va_P g.2.1 zCls (zYs g aa ss F a5 q5 q16 qf bs q32 qf0 qf1 qf2 qf3 qf4 qf5 qf6 qf7 qf8 r0 r1 r2 r3 r4) H) : va_at g.2.1 zCls (zsad aa ss [a5, q5, q16, qf, bs, q32, qf0, qf1, qf2, qf3, qf4, qf5, qf6, qf7, qf8, r0, r1, r2, r3, r4] 0, z_cn (zsad aa ss [a5, q5, q16, qf, bs, q32, qf0, qf1, qf2, qf3, qf4, qf5, qf6, qf7, qf8, r0, r1, r2, r3, r4], g.2) zI0 zP0 zJ0 0) H := by
  have h := hP _ _ (zYs_0 (g := g) (aa := aa) (ss := ss) (F := F) (a5 := a5) (q5 := q5) (q16 := q16) (qf := qf) (bs := bs) (q32 := q32) (qf0 := qf0) (qf1 := qf1) (qf2 := qf2) (qf3 := qf3) (qf4 := qf4) (qf5 := qf5) (qf6 := qf6) (qf7 := qf7) (qf8 := qf8) (r0 := r0) (r1 := r1) (r2 := r2) (r3 := r3) (r4 := r4))
  rw [z_cn_ob (id := 0) (ci := 0) rfl, z_ob_mi]
  show va_at g.2.1 zCls (aa 0, .inr (0, [.int (zI0 0 0), .ref (ss 0), .int (zI0 0 2), .null, .int (zI0 0 4), .int (zI0 0 5), .null, .null, .int (zI0 0 8), .null, .int (zI0 0 10), .int (zI0 0 11), .int (zI0 0 12), .int (zI0 0 13), .int (zI0 0 14), .int (zI0 0 15), .int (zI0 0 16), .int (zI0 0 17)])) H
  have r : ∀ j, j ≠ 0 → j ≠ 2 → zI0 0 j = 0 := fun j h1 h2 => by
    show (if j = 0 then nI 0 else if j = 2 then (if 0 = 0 then 1 else 0) else 0) = (0 : Int32)
    rw [if_neg h1, if_neg h2]
  rw [show zI0 0 0 = 0 from rfl, show zI0 0 2 = 1 from rfl, r 4 (by decide) (by decide), r 5 (by decide) (by decide), r 8 (by decide) (by decide), r 10 (by decide) (by decide), r 11 (by decide) (by decide), r 12 (by decide) (by decide), r 13 (by decide) (by decide), r 14 (by decide) (by decide), r 15 (by decide) (by decide), r 16 (by decide) (by decide), r 17 (by decide) (by decide)]
  exact h
theorem zYs_wb {H : Heap} {k : Nat} (h1 : 1 ≤ k) (h2 : k < 40) (hP : va_P g.2.1 zCls (zYs g aa ss F a5 q5 q16 qf bs q32 qf0 qf1 qf2 qf3 qf4 qf5 qf6 qf7 qf8 r0 r1 r2 r3 r4) H) : va_at g.2.1 zCls (zsad aa ss [a5, q5, q16, qf, bs, q32, qf0, qf1, qf2, qf3, qf4, qf5, qf6, qf7, qf8, r0, r1, r2, r3, r4] k, z_cn (zsad aa ss [a5, q5, q16, qf, bs, q32, qf0, qf1, qf2, qf3, qf4, qf5, qf6, qf7, qf8, r0, r1, r2, r3, r4], g.2) zI0 zP0 zJ0 k) H := by
  have h := hP _ _ (zYs_b (g := g) (aa := aa) (ss := ss) (F := F) (a5 := a5) (q5 := q5) (q16 := q16) (qf := qf) (bs := bs) (q32 := q32) (qf0 := qf0) (qf1 := qf1) (qf2 := qf2) (qf3 := qf3) (qf4 := qf4) (qf5 := qf5) (qf6 := qf6) (qf7 := qf7) (qf8 := qf8) (r0 := r0) (r1 := r1) (r2 := r2) (r3 := r3) (r4 := r4) h1 h2)
  rw [z_cn_ob (z_shb h2), z_ob_mi]
  show va_at g.2.1 zCls (zsad aa ss [a5, q5, q16, qf, bs, q32, qf0, qf1, qf2, qf3, qf4, qf5, qf6, qf7, qf8, r0, r1, r2, r3, r4] k, .inr (0, [.int (zI0 k 0), .ref (zsad aa ss [a5, q5, q16, qf, bs, q32, qf0, qf1, qf2, qf3, qf4, qf5, qf6, qf7, qf8, r0, r1, r2, r3, r4] (z_fx k 1)), .int (zI0 k 2), .null, .int (zI0 k 4), .int (zI0 k 5), .null, .null, .int (zI0 k 8), .null, .int (zI0 k 10), .int (zI0 k 11), .int (zI0 k 12), .int (zI0 k 13), .int (zI0 k 14), .int (zI0 k 15), .int (zI0 k 16), .int (zI0 k 17)])) H
  have e : zI0 k = fun j => if j = 0 then nI k else if j = 2 then (if k = 0 then 1 else 0) else 0 := if_pos h2
  have r : ∀ j, j ≠ 0 → zI0 k j = 0 := fun j h3 => by
    rw [e]
    show (if j = 0 then nI k else if j = 2 then (if k = 0 then 1 else 0) else 0) = (0 : Int32)
    rw [if_neg h3, if_neg (show ¬ k = 0 by omega), ite_self]
  have r0 : zI0 k 0 = nI k := by
    rw [e]
    rfl
  rw [zsad_b h2, z_fxb h2, zsad_s h2, r0, r 2 (by decide), r 4 (by decide), r 5 (by decide), r 8 (by decide), r 10 (by decide), r 11 (by decide), r 12 (by decide), r 13 (by decide), r 14 (by decide), r 15 (by decide), r 16 (by decide), r 17 (by decide)]
  exact h
theorem zYs_w40 {H : Heap} (hP : va_P g.2.1 zCls (zYs g aa ss F a5 q5 q16 qf bs q32 qf0 qf1 qf2 qf3 qf4 qf5 qf6 qf7 qf8 r0 r1 r2 r3 r4) H) : va_at g.2.1 zCls (zsad aa ss [a5, q5, q16, qf, bs, q32, qf0, qf1, qf2, qf3, qf4, qf5, qf6, qf7, qf8, r0, r1, r2, r3, r4] 40, z_cn (zsad aa ss [a5, q5, q16, qf, bs, q32, qf0, qf1, qf2, qf3, qf4, qf5, qf6, qf7, qf8, r0, r1, r2, r3, r4], g.2) zI0 zP0 zJ0 40) H := by
  have h := hP _ _ (zYs_40 (g := g) (aa := aa) (ss := ss) (F := F) (a5 := a5) (q5 := q5) (q16 := q16) (qf := qf) (bs := bs) (q32 := q32) (qf0 := qf0) (qf1 := qf1) (qf2 := qf2) (qf3 := qf3) (qf4 := qf4) (qf5 := qf5) (qf6 := qf6) (qf7 := qf7) (qf8 := qf8) (r0 := r0) (r1 := r1) (r2 := r2) (r3 := r3) (r4 := r4))
  rw [z_cn_ar (id := 40) (t := 0) (n := 20) rfl]
  exact h
theorem zYs_ws {H : Heap} {b : Nat} (h1 : 1 ≤ b) (h2 : b < 40) (hP : va_P g.2.1 zCls (zYs g aa ss F a5 q5 q16 qf bs q32 qf0 qf1 qf2 qf3 qf4 qf5 qf6 qf7 qf8 r0 r1 r2 r3 r4) H) : va_at g.2.1 zCls (zsad aa ss [a5, q5, q16, qf, bs, q32, qf0, qf1, qf2, qf3, qf4, qf5, qf6, qf7, qf8, r0, r1, r2, r3, r4] (40 + b), z_cn (zsad aa ss [a5, q5, q16, qf, bs, q32, qf0, qf1, qf2, qf3, qf4, qf5, qf6, qf7, qf8, r0, r1, r2, r3, r4], g.2) zI0 zP0 zJ0 (40 + b)) H := by
  have h := hP _ _ (zYs_s (g := g) (aa := aa) (ss := ss) (F := F) (a5 := a5) (q5 := q5) (q16 := q16) (qf := qf) (bs := bs) (q32 := q32) (qf0 := qf0) (qf1 := qf1) (qf2 := qf2) (qf3 := qf3) (qf4 := qf4) (qf5 := qf5) (qf6 := qf6) (qf7 := qf7) (qf8 := qf8) (r0 := r0) (r1 := r1) (r2 := r2) (r3 := r3) (r4 := r4) h1 h2)
  rw [z_cn_ar (z_shs h2)]
  show va_at g.2.1 zCls (zsad aa ss [a5, q5, q16, qf, bs, q32, qf0, qf1, qf2, qf3, qf4, qf5, qf6, qf7, qf8, r0, r1, r2, r3, r4] (40 + b), .inl (g.2.2.1 0, 20, .inl (zI0 (40 + b)))) H
  have e : zI0 (40 + b) = fun _ => 0 := by
    unfold zI0
    rw [if_neg (by omega), if_neg (by omega), if_neg (by omega), if_neg (by omega)]
  rw [zsad_s h2, e]
  exact h
theorem zYs_w80 {H : Heap} (hP : va_P g.2.1 zCls (zYs g aa ss F a5 q5 q16 qf bs q32 qf0 qf1 qf2 qf3 qf4 qf5 qf6 qf7 qf8 r0 r1 r2 r3 r4) H) : va_at g.2.1 zCls (zsad aa ss [a5, q5, q16, qf, bs, q32, qf0, qf1, qf2, qf3, qf4, qf5, qf6, qf7, qf8, r0, r1, r2, r3, r4] 80, z_cn (zsad aa ss [a5, q5, q16, qf, bs, q32, qf0, qf1, qf2, qf3, qf4, qf5, qf6, qf7, qf8, r0, r1, r2, r3, r4], g.2) zI0 zP0 zJ0 80) H := by
  have h := hP _ _ (zYs_80 (g := g) (aa := aa) (ss := ss) (F := F) (a5 := a5) (q5 := q5) (q16 := q16) (qf := qf) (bs := bs) (q32 := q32) (qf0 := qf0) (qf1 := qf1) (qf2 := qf2) (qf3 := qf3) (qf4 := qf4) (qf5 := qf5) (qf6 := qf6) (qf7 := qf7) (qf8 := qf8) (r0 := r0) (r1 := r1) (r2 := r2) (r3 := r3) (r4 := r4))
  rw [z_cn_ob (id := 80) (ci := 5) rfl, z_ob_mi]
  show va_at g.2.1 zCls (a5, .inr (5, [.ref (q5), .ref (q16), .ref (q32)])) H
  exact h
theorem zYs_w81 {H : Heap} (hP : va_P g.2.1 zCls (zYs g aa ss F a5 q5 q16 qf bs q32 qf0 qf1 qf2 qf3 qf4 qf5 qf6 qf7 qf8 r0 r1 r2 r3 r4) H) : va_at g.2.1 zCls (zsad aa ss [a5, q5, q16, qf, bs, q32, qf0, qf1, qf2, qf3, qf4, qf5, qf6, qf7, qf8, r0, r1, r2, r3, r4] 81, z_cn (zsad aa ss [a5, q5, q16, qf, bs, q32, qf0, qf1, qf2, qf3, qf4, qf5, qf6, qf7, qf8, r0, r1, r2, r3, r4], g.2) zI0 zP0 zJ0 81) H := by
  have h := hP _ _ (zYs_81 (g := g) (aa := aa) (ss := ss) (F := F) (a5 := a5) (q5 := q5) (q16 := q16) (qf := qf) (bs := bs) (q32 := q32) (qf0 := qf0) (qf1 := qf1) (qf2 := qf2) (qf3 := qf3) (qf4 := qf4) (qf5 := qf5) (qf6 := qf6) (qf7 := qf7) (qf8 := qf8) (r0 := r0) (r1 := r1) (r2 := r2) (r3 := r3) (r4 := r4))
  rw [z_cn_ob (id := 81) (ci := 4) rfl, z_ob_mi]
  show va_at g.2.1 zCls (q5, .inr (4, [.ref (bs), .ref (aa 0), .int (zI0 81 2), .int (zI0 81 3), .int (zI0 81 4)])) H
  rw [show zI0 81 2 = 1 from rfl, show zI0 81 3 = 800 from rfl, show zI0 81 4 = 600 from rfl]
  exact h
theorem zYs_w82 {H : Heap} (hP : va_P g.2.1 zCls (zYs g aa ss F a5 q5 q16 qf bs q32 qf0 qf1 qf2 qf3 qf4 qf5 qf6 qf7 qf8 r0 r1 r2 r3 r4) H) : va_at g.2.1 zCls (zsad aa ss [a5, q5, q16, qf, bs, q32, qf0, qf1, qf2, qf3, qf4, qf5, qf6, qf7, qf8, r0, r1, r2, r3, r4] 82, z_cn (zsad aa ss [a5, q5, q16, qf, bs, q32, qf0, qf1, qf2, qf3, qf4, qf5, qf6, qf7, qf8, r0, r1, r2, r3, r4], g.2) zI0 zP0 zJ0 82) H := by
  have h := hP _ _ (zYs_82 (g := g) (aa := aa) (ss := ss) (F := F) (a5 := a5) (q5 := q5) (q16 := q16) (qf := qf) (bs := bs) (q32 := q32) (qf0 := qf0) (qf1 := qf1) (qf2 := qf2) (qf3 := qf3) (qf4 := qf4) (qf5 := qf5) (qf6 := qf6) (qf7 := qf7) (qf8 := qf8) (r0 := r0) (r1 := r1) (r2 := r2) (r3 := r3) (r4 := r4))
  rw [z_cn_ob (id := 82) (ci := 2) rfl, z_ob_mi]
  show va_at g.2.1 zCls (q16, .inr (2, [.ref (q5), .ref (qf), .int (zI0 82 2)])) H
  rw [show zI0 82 2 = 1 from rfl]
  exact h
theorem zYs_w83 {H : Heap} (hP : va_P g.2.1 zCls (zYs g aa ss F a5 q5 q16 qf bs q32 qf0 qf1 qf2 qf3 qf4 qf5 qf6 qf7 qf8 r0 r1 r2 r3 r4) H) : va_at g.2.1 zCls (zsad aa ss [a5, q5, q16, qf, bs, q32, qf0, qf1, qf2, qf3, qf4, qf5, qf6, qf7, qf8, r0, r1, r2, r3, r4] 83, z_cn (zsad aa ss [a5, q5, q16, qf, bs, q32, qf0, qf1, qf2, qf3, qf4, qf5, qf6, qf7, qf8, r0, r1, r2, r3, r4], g.2) zI0 zP0 zJ0 83) H := by
  have h := hP _ _ (zYs_83 (g := g) (aa := aa) (ss := ss) (F := F) (a5 := a5) (q5 := q5) (q16 := q16) (qf := qf) (bs := bs) (q32 := q32) (qf0 := qf0) (qf1 := qf1) (qf2 := qf2) (qf3 := qf3) (qf4 := qf4) (qf5 := qf5) (qf6 := qf6) (qf7 := qf7) (qf8 := qf8) (r0 := r0) (r1 := r1) (r2 := r2) (r3 := r3) (r4 := r4))
  rw [z_cn_ob (id := 83) (ci := 1) rfl, z_ob_mi]
  show va_at g.2.1 zCls (qf, .inr (1, [.ref (qf0), .ref (qf1), .ref (qf2), .ref (qf3), .ref (qf4), .ref (qf5), .ref (qf6), .ref (qf7), .ref (qf8), .int (zI0 83 9), .int (zI0 83 10)])) H
  rw [show zI0 83 9 = 0 from rfl, show zI0 83 10 = 0 from rfl]
  exact h
theorem zYs_w84 {H : Heap} (hF : ∀ j, F j = if j < 39 + 1 then some (aa j) else none) (hP : va_P g.2.1 zCls (zYs g aa ss F a5 q5 q16 qf bs q32 qf0 qf1 qf2 qf3 qf4 qf5 qf6 qf7 qf8 r0 r1 r2 r3 r4) H) : va_at g.2.1 zCls (zsad aa ss [a5, q5, q16, qf, bs, q32, qf0, qf1, qf2, qf3, qf4, qf5, qf6, qf7, qf8, r0, r1, r2, r3, r4] 84, z_cn (zsad aa ss [a5, q5, q16, qf, bs, q32, qf0, qf1, qf2, qf3, qf4, qf5, qf6, qf7, qf8, r0, r1, r2, r3, r4], g.2) zI0 zP0 zJ0 84) H := by
  have h := hP _ _ (zYs_84 (g := g) (aa := aa) (ss := ss) (F := F) (a5 := a5) (q5 := q5) (q16 := q16) (qf := qf) (bs := bs) (q32 := q32) (qf0 := qf0) (qf1 := qf1) (qf2 := qf2) (qf3 := qf3) (qf4 := qf4) (qf5 := qf5) (qf6 := qf6) (qf7 := qf7) (qf8 := qf8) (r0 := r0) (r1 := r1) (r2 := r2) (r3 := r3) (r4 := r4))
  rw [z_cn_ar (id := 84) (t := 3) (n := 40) rfl]
  have h9 : H[bs]? = some (arrV (g.2.2.1 3) 40 (fun j => va_rf (F j))) := h
  show H[bs]? = some (arrV (g.2.2.1 3) 40 (fun j => va_rf (some (zsad aa ss [a5, q5, q16, qf, bs, q32, qf0, qf1, qf2, qf3, qf4, qf5, qf6, qf7, qf8, r0, r1, r2, r3, r4] j))))
  rw [h9]
  refine congrArg some (arrV_cg fun j hj => congrArg va_rf ?_)
  rw [hF j, if_pos hj, zsad_b hj]
theorem zYs_w85 {H : Heap} (hP : va_P g.2.1 zCls (zYs g aa ss F a5 q5 q16 qf bs q32 qf0 qf1 qf2 qf3 qf4 qf5 qf6 qf7 qf8 r0 r1 r2 r3 r4) H) : va_at g.2.1 zCls (zsad aa ss [a5, q5, q16, qf, bs, q32, qf0, qf1, qf2, qf3, qf4, qf5, qf6, qf7, qf8, r0, r1, r2, r3, r4] 85, z_cn (zsad aa ss [a5, q5, q16, qf, bs, q32, qf0, qf1, qf2, qf3, qf4, qf5, qf6, qf7, qf8, r0, r1, r2, r3, r4], g.2) zI0 zP0 zJ0 85) H := by
  have h := hP _ _ (zYs_85 (g := g) (aa := aa) (ss := ss) (F := F) (a5 := a5) (q5 := q5) (q16 := q16) (qf := qf) (bs := bs) (q32 := q32) (qf0 := qf0) (qf1 := qf1) (qf2 := qf2) (qf3 := qf3) (qf4 := qf4) (qf5 := qf5) (qf6 := qf6) (qf7 := qf7) (qf8 := qf8) (r0 := r0) (r1 := r1) (r2 := r2) (r3 := r3) (r4 := r4))
  rw [z_cn_ar (id := 85) (t := 4) (n := 2) rfl]
  exact h
theorem zYs_w86 {H : Heap} (hP : va_P g.2.1 zCls (zYs g aa ss F a5 q5 q16 qf bs q32 qf0 qf1 qf2 qf3 qf4 qf5 qf6 qf7 qf8 r0 r1 r2 r3 r4) H) : va_at g.2.1 zCls (zsad aa ss [a5, q5, q16, qf, bs, q32, qf0, qf1, qf2, qf3, qf4, qf5, qf6, qf7, qf8, r0, r1, r2, r3, r4] 86, z_cn (zsad aa ss [a5, q5, q16, qf, bs, q32, qf0, qf1, qf2, qf3, qf4, qf5, qf6, qf7, qf8, r0, r1, r2, r3, r4], g.2) zI0 zP0 zJ0 86) H := by
  have h := hP _ _ (zYs_86 (g := g) (aa := aa) (ss := ss) (F := F) (a5 := a5) (q5 := q5) (q16 := q16) (qf := qf) (bs := bs) (q32 := q32) (qf0 := qf0) (qf1 := qf1) (qf2 := qf2) (qf3 := qf3) (qf4 := qf4) (qf5 := qf5) (qf6 := qf6) (qf7 := qf7) (qf8 := qf8) (r0 := r0) (r1 := r1) (r2 := r2) (r3 := r3) (r4 := r4))
  rw [z_cn_ar (id := 86) (t := 0) (n := 40) rfl]
  show va_at g.2.1 zCls (qf0, .inl (g.2.2.1 0, 40, .inl (zI0 86))) H
  rw [show zI0 86 = (fun _ => 0) from rfl]
  exact h
theorem zYs_w87 {H : Heap} (hP : va_P g.2.1 zCls (zYs g aa ss F a5 q5 q16 qf bs q32 qf0 qf1 qf2 qf3 qf4 qf5 qf6 qf7 qf8 r0 r1 r2 r3 r4) H) : va_at g.2.1 zCls (zsad aa ss [a5, q5, q16, qf, bs, q32, qf0, qf1, qf2, qf3, qf4, qf5, qf6, qf7, qf8, r0, r1, r2, r3, r4] 87, z_cn (zsad aa ss [a5, q5, q16, qf, bs, q32, qf0, qf1, qf2, qf3, qf4, qf5, qf6, qf7, qf8, r0, r1, r2, r3, r4], g.2) zI0 zP0 zJ0 87) H := by
  have h := hP _ _ (zYs_87 (g := g) (aa := aa) (ss := ss) (F := F) (a5 := a5) (q5 := q5) (q16 := q16) (qf := qf) (bs := bs) (q32 := q32) (qf0 := qf0) (qf1 := qf1) (qf2 := qf2) (qf3 := qf3) (qf4 := qf4) (qf5 := qf5) (qf6 := qf6) (qf7 := qf7) (qf8 := qf8) (r0 := r0) (r1 := r1) (r2 := r2) (r3 := r3) (r4 := r4))
  rw [z_cn_ar (id := 87) (t := 0) (n := 40) rfl]
  show va_at g.2.1 zCls (qf1, .inl (g.2.2.1 0, 40, .inl (zI0 87))) H
  rw [show zI0 87 = (fun _ => 0) from rfl]
  exact h
theorem zYs_w88 {H : Heap} (hP : va_P g.2.1 zCls (zYs g aa ss F a5 q5 q16 qf bs q32 qf0 qf1 qf2 qf3 qf4 qf5 qf6 qf7 qf8 r0 r1 r2 r3 r4) H) : va_at g.2.1 zCls (zsad aa ss [a5, q5, q16, qf, bs, q32, qf0, qf1, qf2, qf3, qf4, qf5, qf6, qf7, qf8, r0, r1, r2, r3, r4] 88, z_cn (zsad aa ss [a5, q5, q16, qf, bs, q32, qf0, qf1, qf2, qf3, qf4, qf5, qf6, qf7, qf8, r0, r1, r2, r3, r4], g.2) zI0 zP0 zJ0 88) H := by
  have h := hP _ _ (zYs_88 (g := g) (aa := aa) (ss := ss) (F := F) (a5 := a5) (q5 := q5) (q16 := q16) (qf := qf) (bs := bs) (q32 := q32) (qf0 := qf0) (qf1 := qf1) (qf2 := qf2) (qf3 := qf3) (qf4 := qf4) (qf5 := qf5) (qf6 := qf6) (qf7 := qf7) (qf8 := qf8) (r0 := r0) (r1 := r1) (r2 := r2) (r3 := r3) (r4 := r4))
  rw [z_cn_ar (id := 88) (t := 0) (n := 40) rfl]
  show va_at g.2.1 zCls (qf2, .inl (g.2.2.1 0, 40, .inl (zI0 88))) H
  rw [show zI0 88 = (fun _ => 0) from rfl]
  exact h
theorem zYs_w89 {H : Heap} (hP : va_P g.2.1 zCls (zYs g aa ss F a5 q5 q16 qf bs q32 qf0 qf1 qf2 qf3 qf4 qf5 qf6 qf7 qf8 r0 r1 r2 r3 r4) H) : va_at g.2.1 zCls (zsad aa ss [a5, q5, q16, qf, bs, q32, qf0, qf1, qf2, qf3, qf4, qf5, qf6, qf7, qf8, r0, r1, r2, r3, r4] 89, z_cn (zsad aa ss [a5, q5, q16, qf, bs, q32, qf0, qf1, qf2, qf3, qf4, qf5, qf6, qf7, qf8, r0, r1, r2, r3, r4], g.2) zI0 zP0 zJ0 89) H := by
  have h := hP _ _ (zYs_89 (g := g) (aa := aa) (ss := ss) (F := F) (a5 := a5) (q5 := q5) (q16 := q16) (qf := qf) (bs := bs) (q32 := q32) (qf0 := qf0) (qf1 := qf1) (qf2 := qf2) (qf3 := qf3) (qf4 := qf4) (qf5 := qf5) (qf6 := qf6) (qf7 := qf7) (qf8 := qf8) (r0 := r0) (r1 := r1) (r2 := r2) (r3 := r3) (r4 := r4))
  rw [z_cn_ar (id := 89) (t := 0) (n := 40) rfl]
  show va_at g.2.1 zCls (qf3, .inl (g.2.2.1 0, 40, .inl (zI0 89))) H
  rw [show zI0 89 = (fun _ => 0) from rfl]
  exact h
theorem zYs_w90 {H : Heap} (hP : va_P g.2.1 zCls (zYs g aa ss F a5 q5 q16 qf bs q32 qf0 qf1 qf2 qf3 qf4 qf5 qf6 qf7 qf8 r0 r1 r2 r3 r4) H) : va_at g.2.1 zCls (zsad aa ss [a5, q5, q16, qf, bs, q32, qf0, qf1, qf2, qf3, qf4, qf5, qf6, qf7, qf8, r0, r1, r2, r3, r4] 90, z_cn (zsad aa ss [a5, q5, q16, qf, bs, q32, qf0, qf1, qf2, qf3, qf4, qf5, qf6, qf7, qf8, r0, r1, r2, r3, r4], g.2) zI0 zP0 zJ0 90) H := by
  have h := hP _ _ (zYs_90 (g := g) (aa := aa) (ss := ss) (F := F) (a5 := a5) (q5 := q5) (q16 := q16) (qf := qf) (bs := bs) (q32 := q32) (qf0 := qf0) (qf1 := qf1) (qf2 := qf2) (qf3 := qf3) (qf4 := qf4) (qf5 := qf5) (qf6 := qf6) (qf7 := qf7) (qf8 := qf8) (r0 := r0) (r1 := r1) (r2 := r2) (r3 := r3) (r4 := r4))
  rw [z_cn_ar (id := 90) (t := 0) (n := 40) rfl]
  show va_at g.2.1 zCls (qf4, .inl (g.2.2.1 0, 40, .inl (zI0 90))) H
  rw [show zI0 90 = (fun _ => 0) from rfl]
  exact h
theorem zYs_w91 {H : Heap} (hP : va_P g.2.1 zCls (zYs g aa ss F a5 q5 q16 qf bs q32 qf0 qf1 qf2 qf3 qf4 qf5 qf6 qf7 qf8 r0 r1 r2 r3 r4) H) : va_at g.2.1 zCls (zsad aa ss [a5, q5, q16, qf, bs, q32, qf0, qf1, qf2, qf3, qf4, qf5, qf6, qf7, qf8, r0, r1, r2, r3, r4] 91, z_cn (zsad aa ss [a5, q5, q16, qf, bs, q32, qf0, qf1, qf2, qf3, qf4, qf5, qf6, qf7, qf8, r0, r1, r2, r3, r4], g.2) zI0 zP0 zJ0 91) H := by
  have h := hP _ _ (zYs_91 (g := g) (aa := aa) (ss := ss) (F := F) (a5 := a5) (q5 := q5) (q16 := q16) (qf := qf) (bs := bs) (q32 := q32) (qf0 := qf0) (qf1 := qf1) (qf2 := qf2) (qf3 := qf3) (qf4 := qf4) (qf5 := qf5) (qf6 := qf6) (qf7 := qf7) (qf8 := qf8) (r0 := r0) (r1 := r1) (r2 := r2) (r3 := r3) (r4 := r4))
  rw [z_cn_ar (id := 91) (t := 0) (n := 40) rfl]
  show va_at g.2.1 zCls (qf5, .inl (g.2.2.1 0, 40, .inl (zI0 91))) H
  rw [show zI0 91 = (fun _ => 0) from rfl]
  exact h
theorem zYs_w92 {H : Heap} (hP : va_P g.2.1 zCls (zYs g aa ss F a5 q5 q16 qf bs q32 qf0 qf1 qf2 qf3 qf4 qf5 qf6 qf7 qf8 r0 r1 r2 r3 r4) H) : va_at g.2.1 zCls (zsad aa ss [a5, q5, q16, qf, bs, q32, qf0, qf1, qf2, qf3, qf4, qf5, qf6, qf7, qf8, r0, r1, r2, r3, r4] 92, z_cn (zsad aa ss [a5, q5, q16, qf, bs, q32, qf0, qf1, qf2, qf3, qf4, qf5, qf6, qf7, qf8, r0, r1, r2, r3, r4], g.2) zI0 zP0 zJ0 92) H := by
  have h := hP _ _ (zYs_92 (g := g) (aa := aa) (ss := ss) (F := F) (a5 := a5) (q5 := q5) (q16 := q16) (qf := qf) (bs := bs) (q32 := q32) (qf0 := qf0) (qf1 := qf1) (qf2 := qf2) (qf3 := qf3) (qf4 := qf4) (qf5 := qf5) (qf6 := qf6) (qf7 := qf7) (qf8 := qf8) (r0 := r0) (r1 := r1) (r2 := r2) (r3 := r3) (r4 := r4))
  rw [z_cn_ar (id := 92) (t := 0) (n := 40) rfl]
  show va_at g.2.1 zCls (qf6, .inl (g.2.2.1 0, 40, .inl (zI0 92))) H
  rw [show zI0 92 = (fun _ => 0) from rfl]
  exact h
theorem zYs_w93 {H : Heap} (hP : va_P g.2.1 zCls (zYs g aa ss F a5 q5 q16 qf bs q32 qf0 qf1 qf2 qf3 qf4 qf5 qf6 qf7 qf8 r0 r1 r2 r3 r4) H) : va_at g.2.1 zCls (zsad aa ss [a5, q5, q16, qf, bs, q32, qf0, qf1, qf2, qf3, qf4, qf5, qf6, qf7, qf8, r0, r1, r2, r3, r4] 93, z_cn (zsad aa ss [a5, q5, q16, qf, bs, q32, qf0, qf1, qf2, qf3, qf4, qf5, qf6, qf7, qf8, r0, r1, r2, r3, r4], g.2) zI0 zP0 zJ0 93) H := by
  have h := hP _ _ (zYs_93 (g := g) (aa := aa) (ss := ss) (F := F) (a5 := a5) (q5 := q5) (q16 := q16) (qf := qf) (bs := bs) (q32 := q32) (qf0 := qf0) (qf1 := qf1) (qf2 := qf2) (qf3 := qf3) (qf4 := qf4) (qf5 := qf5) (qf6 := qf6) (qf7 := qf7) (qf8 := qf8) (r0 := r0) (r1 := r1) (r2 := r2) (r3 := r3) (r4 := r4))
  rw [z_cn_ar (id := 93) (t := 0) (n := 40) rfl]
  show va_at g.2.1 zCls (qf7, .inl (g.2.2.1 0, 40, .inl (zI0 93))) H
  rw [show zI0 93 = (fun _ => 0) from rfl]
  exact h
theorem zYs_w94 {H : Heap} (hP : va_P g.2.1 zCls (zYs g aa ss F a5 q5 q16 qf bs q32 qf0 qf1 qf2 qf3 qf4 qf5 qf6 qf7 qf8 r0 r1 r2 r3 r4) H) : va_at g.2.1 zCls (zsad aa ss [a5, q5, q16, qf, bs, q32, qf0, qf1, qf2, qf3, qf4, qf5, qf6, qf7, qf8, r0, r1, r2, r3, r4] 94, z_cn (zsad aa ss [a5, q5, q16, qf, bs, q32, qf0, qf1, qf2, qf3, qf4, qf5, qf6, qf7, qf8, r0, r1, r2, r3, r4], g.2) zI0 zP0 zJ0 94) H := by
  have h := hP _ _ (zYs_94 (g := g) (aa := aa) (ss := ss) (F := F) (a5 := a5) (q5 := q5) (q16 := q16) (qf := qf) (bs := bs) (q32 := q32) (qf0 := qf0) (qf1 := qf1) (qf2 := qf2) (qf3 := qf3) (qf4 := qf4) (qf5 := qf5) (qf6 := qf6) (qf7 := qf7) (qf8 := qf8) (r0 := r0) (r1 := r1) (r2 := r2) (r3 := r3) (r4 := r4))
  rw [z_cn_ar (id := 94) (t := 1) (n := 40) rfl]
  show va_at g.2.1 zCls (qf8, .inl (g.2.2.1 1, 40, .inl (zI0 94))) H
  rw [show zI0 94 = (fun _ => 0) from rfl]
  exact h
theorem zYs_w95 {H : Heap} (hP : va_P g.2.1 zCls (zYs g aa ss F a5 q5 q16 qf bs q32 qf0 qf1 qf2 qf3 qf4 qf5 qf6 qf7 qf8 r0 r1 r2 r3 r4) H) : va_at g.2.1 zCls (zsad aa ss [a5, q5, q16, qf, bs, q32, qf0, qf1, qf2, qf3, qf4, qf5, qf6, qf7, qf8, r0, r1, r2, r3, r4] 95, z_cn (zsad aa ss [a5, q5, q16, qf, bs, q32, qf0, qf1, qf2, qf3, qf4, qf5, qf6, qf7, qf8, r0, r1, r2, r3, r4], g.2) zI0 zP0 zJ0 95) H := by
  have h := hP _ _ (zYs_95 (g := g) (aa := aa) (ss := ss) (F := F) (a5 := a5) (q5 := q5) (q16 := q16) (qf := qf) (bs := bs) (q32 := q32) (qf0 := qf0) (qf1 := qf1) (qf2 := qf2) (qf3 := qf3) (qf4 := qf4) (qf5 := qf5) (qf6 := qf6) (qf7 := qf7) (qf8 := qf8) (r0 := r0) (r1 := r1) (r2 := r2) (r3 := r3) (r4 := r4))
  rw [z_cn_ar (id := 95) (t := 0) (n := 6) rfl]
  show va_at g.2.1 zCls (r0, .inl (g.2.2.1 0, 6, .inl (zI0 95))) H
  rw [show zI0 95 = (fun _ => 0) from rfl]
  exact h
theorem zYs_w96 {H : Heap} (hP : va_P g.2.1 zCls (zYs g aa ss F a5 q5 q16 qf bs q32 qf0 qf1 qf2 qf3 qf4 qf5 qf6 qf7 qf8 r0 r1 r2 r3 r4) H) : va_at g.2.1 zCls (zsad aa ss [a5, q5, q16, qf, bs, q32, qf0, qf1, qf2, qf3, qf4, qf5, qf6, qf7, qf8, r0, r1, r2, r3, r4] 96, z_cn (zsad aa ss [a5, q5, q16, qf, bs, q32, qf0, qf1, qf2, qf3, qf4, qf5, qf6, qf7, qf8, r0, r1, r2, r3, r4], g.2) zI0 zP0 zJ0 96) H := by
  have h := hP _ _ (zYs_96 (g := g) (aa := aa) (ss := ss) (F := F) (a5 := a5) (q5 := q5) (q16 := q16) (qf := qf) (bs := bs) (q32 := q32) (qf0 := qf0) (qf1 := qf1) (qf2 := qf2) (qf3 := qf3) (qf4 := qf4) (qf5 := qf5) (qf6 := qf6) (qf7 := qf7) (qf8 := qf8) (r0 := r0) (r1 := r1) (r2 := r2) (r3 := r3) (r4 := r4))
  rw [z_cn_ar (id := 96) (t := 0) (n := 6) rfl]
  show va_at g.2.1 zCls (r1, .inl (g.2.2.1 0, 6, .inl (zI0 96))) H
  rw [show zI0 96 = (fun _ => 0) from rfl]
  exact h
theorem zYs_w97 {H : Heap} (hP : va_P g.2.1 zCls (zYs g aa ss F a5 q5 q16 qf bs q32 qf0 qf1 qf2 qf3 qf4 qf5 qf6 qf7 qf8 r0 r1 r2 r3 r4) H) : va_at g.2.1 zCls (zsad aa ss [a5, q5, q16, qf, bs, q32, qf0, qf1, qf2, qf3, qf4, qf5, qf6, qf7, qf8, r0, r1, r2, r3, r4] 97, z_cn (zsad aa ss [a5, q5, q16, qf, bs, q32, qf0, qf1, qf2, qf3, qf4, qf5, qf6, qf7, qf8, r0, r1, r2, r3, r4], g.2) zI0 zP0 zJ0 97) H := by
  have h := hP _ _ (zYs_97 (g := g) (aa := aa) (ss := ss) (F := F) (a5 := a5) (q5 := q5) (q16 := q16) (qf := qf) (bs := bs) (q32 := q32) (qf0 := qf0) (qf1 := qf1) (qf2 := qf2) (qf3 := qf3) (qf4 := qf4) (qf5 := qf5) (qf6 := qf6) (qf7 := qf7) (qf8 := qf8) (r0 := r0) (r1 := r1) (r2 := r2) (r3 := r3) (r4 := r4))
  rw [z_cn_ar (id := 97) (t := 0) (n := 6) rfl]
  show va_at g.2.1 zCls (r2, .inl (g.2.2.1 0, 6, .inl (zI0 97))) H
  rw [show zI0 97 = (fun _ => 0) from rfl]
  exact h
theorem zYs_w98 {H : Heap} (hP : va_P g.2.1 zCls (zYs g aa ss F a5 q5 q16 qf bs q32 qf0 qf1 qf2 qf3 qf4 qf5 qf6 qf7 qf8 r0 r1 r2 r3 r4) H) : va_at g.2.1 zCls (zsad aa ss [a5, q5, q16, qf, bs, q32, qf0, qf1, qf2, qf3, qf4, qf5, qf6, qf7, qf8, r0, r1, r2, r3, r4] 98, z_cn (zsad aa ss [a5, q5, q16, qf, bs, q32, qf0, qf1, qf2, qf3, qf4, qf5, qf6, qf7, qf8, r0, r1, r2, r3, r4], g.2) zI0 zP0 zJ0 98) H := by
  have h := hP _ _ (zYs_98 (g := g) (aa := aa) (ss := ss) (F := F) (a5 := a5) (q5 := q5) (q16 := q16) (qf := qf) (bs := bs) (q32 := q32) (qf0 := qf0) (qf1 := qf1) (qf2 := qf2) (qf3 := qf3) (qf4 := qf4) (qf5 := qf5) (qf6 := qf6) (qf7 := qf7) (qf8 := qf8) (r0 := r0) (r1 := r1) (r2 := r2) (r3 := r3) (r4 := r4))
  rw [z_cn_ar (id := 98) (t := 0) (n := 6) rfl]
  show va_at g.2.1 zCls (r3, .inl (g.2.2.1 0, 6, .inl (zI0 98))) H
  rw [show zI0 98 = (fun _ => 0) from rfl]
  exact h
theorem zYs_w99 {H : Heap} (hP : va_P g.2.1 zCls (zYs g aa ss F a5 q5 q16 qf bs q32 qf0 qf1 qf2 qf3 qf4 qf5 qf6 qf7 qf8 r0 r1 r2 r3 r4) H) : va_at g.2.1 zCls (zsad aa ss [a5, q5, q16, qf, bs, q32, qf0, qf1, qf2, qf3, qf4, qf5, qf6, qf7, qf8, r0, r1, r2, r3, r4] 99, z_cn (zsad aa ss [a5, q5, q16, qf, bs, q32, qf0, qf1, qf2, qf3, qf4, qf5, qf6, qf7, qf8, r0, r1, r2, r3, r4], g.2) zI0 zP0 zJ0 99) H := by
  have h := hP _ _ (zYs_99 (g := g) (aa := aa) (ss := ss) (F := F) (a5 := a5) (q5 := q5) (q16 := q16) (qf := qf) (bs := bs) (q32 := q32) (qf0 := qf0) (qf1 := qf1) (qf2 := qf2) (qf3 := qf3) (qf4 := qf4) (qf5 := qf5) (qf6 := qf6) (qf7 := qf7) (qf8 := qf8) (r0 := r0) (r1 := r1) (r2 := r2) (r3 := r3) (r4 := r4))
  rw [z_cn_ar (id := 99) (t := 0) (n := 6) rfl]
  show va_at g.2.1 zCls (r4, .inl (g.2.2.1 0, 6, .inl (zI0 99))) H
  rw [show zI0 99 = (fun _ => 0) from rfl]
  exact h
theorem zYs_P (hF : ∀ j, F j = if j < 39 + 1 then some (aa j) else none) {H : Heap} (hP : va_P g.2.1 zCls (zYs g aa ss F a5 q5 q16 qf bs q32 qf0 qf1 qf2 qf3 qf4 qf5 qf6 qf7 qf8 r0 r1 r2 r3 r4) H) : va_P g.2.1 zCls (z_wl (zsad aa ss [a5, q5, q16, qf, bs, q32, qf0, qf1, qf2, qf3, qf4, qf5, qf6, qf7, qf8, r0, r1, r2, r3, r4], g.2) 100 zI0 zP0 zJ0) H := by
  intro k p hp
  have hk : k < 100 := by
    have := (List.getElem?_eq_some_iff.mp hp).1
    rw [z_wl_len] at this
    exact this
  rw [z_wl_get hk] at hp
  cases hp
  rcases zid_cases hk with rfl | ⟨h1, h2⟩ | rfl | ⟨b, rfl, h1, h2⟩ | rfl | rfl | rfl | rfl | rfl | rfl | rfl | rfl | rfl | rfl | rfl | rfl | rfl | rfl | rfl | rfl | rfl | rfl | rfl | rfl
  · exact zYs_w0 hP
  · exact zYs_wb h1 h2 hP
  · exact zYs_w40 hP
  · exact zYs_ws h1 h2 hP
  · exact zYs_w80 hP
  · exact zYs_w81 hP
  · exact zYs_w82 hP
  · exact zYs_w83 hP
  · exact zYs_w84 hF hP
  · exact zYs_w85 hP
  · exact zYs_w86 hP
  · exact zYs_w87 hP
  · exact zYs_w88 hP
  · exact zYs_w89 hP
  · exact zYs_w90 hP
  · exact zYs_w91 hP
  · exact zYs_w92 hP
  · exact zYs_w93 hP
  · exact zYs_w94 hP
  · exact zYs_w95 hP
  · exact zYs_w96 hP
  · exact zYs_w97 hP
  · exact zYs_w98 hP
  · exact zYs_w99 hP
end
end ZST
