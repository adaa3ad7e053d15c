section ZLI
/-- the chain of P from o is the list -/
def zchain (P : Nat → Nat → Option Nat) : Option Nat → List Nat → Prop
  | o, [] => o = none
  | o, x :: xs => o = some x ∧ zchain P (P x 7) xs
/-- c put into a list behind those whose order isn't greater -/
def zins (ord : Nat → Int32) (c : Nat) : List Nat → List Nat
  | [] => [c]
  | x :: xs => if ord x ≤ ord c then x :: zins ord c xs else c :: x :: xs
theorem zchain_congr {P P' : Nat → Nat → Option Nat} : ∀ {l : List Nat} {o : Option Nat}, (∀ x ∈ l, P' x 7 = P x 7) → zchain P o l → zchain P' o l
  | [], _, _, h => h
  | x :: xs, o, hk, h => ⟨h.1, by
    rw [hk x List.mem_cons_self]
    exact zchain_congr (fun y hy => hk y (List.mem_cons_of_mem _ hy)) h.2⟩
theorem zins_mem {ord : Nat → Int32} {c : Nat} : ∀ {l : List Nat} {x : Nat}, x ∈ zins ord c l ↔ x = c ∨ x ∈ l
  | [], x => by simp [zins]
  | y :: ys, x => by
    unfold zins
    split
    · rw [List.mem_cons, zins_mem, List.mem_cons]
      constructor
      · rintro (h | h | h)
        · exact Or.inr (Or.inl h)
        · exact Or.inl h
        · exact Or.inr (Or.inr h)
      · rintro (h | h | h)
        · exact Or.inr (Or.inl h)
        · exact Or.inl h
        · exact Or.inr (Or.inr h)
    · simp
theorem zins_len {ord : Nat → Int32} {c : Nat} : ∀ {l : List Nat}, (zins ord c l).length = l.length + 1
  | [] => rfl
  | y :: ys => by
    unfold zins
    split
    · rw [List.length_cons, zins_len, List.length_cons]
    · rfl
theorem zins_nodup {ord : Nat → Int32} {c : Nat} : ∀ {l : List Nat}, l.Nodup → c ∉ l → (zins ord c l).Nodup
  | [], _, _ => by simp [zins]
  | y :: ys, h, hc => by
    unfold zins
    rw [List.nodup_cons] at h
    rw [List.mem_cons] at hc
    split
    · rw [List.nodup_cons]
      refine ⟨fun q => ?_, zins_nodup h.2 (fun q => hc (Or.inr q))⟩
      rcases zins_mem.mp q with q | q
      · exact hc (Or.inl q.symm)
      · exact h.1 q
    · rw [List.nodup_cons]
      refine ⟨fun q => ?_, List.nodup_cons.mpr h⟩
      rcases List.mem_cons.mp q with q | q
      · exact hc (Or.inl q)
      · exact hc (Or.inr q)
theorem zins_app {ord : Nat → Int32} {c : Nat} {l2 : List Nat} (h2 : ∀ x, l2.head? = some x → ¬ ord x ≤ ord c) : ∀ {l1 : List Nat}, (∀ x ∈ l1, ord x ≤ ord c) → zins ord c (l1 ++ l2) = l1 ++ c :: l2
  | [], _ => by
    cases l2 with
    | nil => rfl
    | cons x xs =>
      show zins ord c (x :: xs) = c :: x :: xs
      unfold zins
      rw [if_neg (h2 x rfl)]
  | x :: xs, h => by
    show zins ord c (x :: (xs ++ l2)) = x :: (xs ++ c :: l2)
    unfold zins
    rw [if_pos (h x List.mem_cons_self), zins_app h2 (fun y hy => h y (List.mem_cons_of_mem _ hy))]
/-- a link put behind y -/
theorem zchain_mid {P : Nat → Nat → Option Nat} {y c : Nat} {l2 : List Nat} : ∀ {l1 : List Nat} {o : Option Nat}, (l1 ++ y :: l2).Nodup → c ∉ l1 ++ y :: l2 → zchain P o (l1 ++ y :: l2) → zchain (z_u (z_u P c 7 (P y 7)) y 7 (some c)) o (l1 ++ y :: c :: l2)
  | [], o, hn, hc, h => by
    have hn2 : y ∉ l2 := (List.nodup_cons.mp hn).1
    have hyc : c ≠ y := fun q => hc (by rw [q]; exact List.mem_cons_self)
    refine ⟨h.1, ?_⟩
    rw [z_u_s]
    refine ⟨rfl, ?_⟩
    rw [z_u_a _ _ hyc, z_u_s]
    refine zchain_congr (fun x hx => ?_) h.2
    rw [z_u_a _ _ (fun q => hn2 (by rw [← q]; exact hx)), z_u_a _ _ (fun q => hc (by rw [← q]; exact List.mem_cons_of_mem _ hx))]
  | x :: xs, o, hn, hc, h => by
    have hn1 := List.nodup_cons.mp hn
    refine ⟨h.1, ?_⟩
    have hxy : x ≠ y := fun q => hn1.1 (by rw [q]; exact List.mem_append_right _ List.mem_cons_self)
    have hxc : x ≠ c := fun q => hc (by rw [q]; exact List.mem_cons_self)
    rw [z_u_a _ _ hxy, z_u_a _ _ hxc]
    exact zchain_mid hn1.2 (fun q => hc (List.mem_cons_of_mem _ q)) h.2
/-- a link put ahead of all -/
theorem zchain_front {P : Nat → Nat → Option Nat} {b c : Nat} {l : List Nat} (hc : c ∉ l) (h : zchain P (P b 6) l) : zchain (z_u (z_u P c 7 (P b 6)) b 6 (some c)) (some c) (c :: l) := by
  refine ⟨rfl, ?_⟩
  rw [z_u_b _ _ (by decide), z_u_s]
  refine zchain_congr (fun x hx => ?_) h
  rw [z_u_b _ _ (by decide), z_u_a _ _ (fun q => hc (by rw [← q]; exact hx))]
theorem zchain_get {P : Nat → Nat → Option Nat} : ∀ {l : List Nat} {o : Option Nat}, zchain P o l → o = l.head? 
  | [], _, h => h
  | _ :: _, _, h => h.1
theorem zchain_drop {P : Nat → Nat → Option Nat} : ∀ {l : List Nat} {o : Option Nat} {i x : Nat}, zchain P o l → l[i]? = some x → P x 7 = l[i + 1]?
  | [], _, i, x, _, hx => by simp at hx
  | y :: ys, o, 0, x, h, hx => by
    rw [List.getElem?_cons_zero] at hx
    cases hx
    rw [List.getElem?_cons_succ, zchain_get h.2, List.head?_eq_getElem?]
  | y :: ys, o, i + 1, x, h, hx => by
    rw [List.getElem?_cons_succ] at hx ⊢
    exact zchain_drop h.2 hx
end ZLI
